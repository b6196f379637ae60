/-! ===== the reference's reader: the first fault stays ===== -/
def flt (f c b : Nat) : Nat := if f = 0 then 1 + 8 * b + c else f
