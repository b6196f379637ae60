/-! ===== the reference: the tape ===== -/
def bb (v : Int32) (i : Nat) : Int32 := vp_nar .byte ((v >>> (nI (24 - 8 * i) &&& 31)).toInt8.toInt32)
def bpF (f : Nat → Int32) (tn : Nat) (v : Int32) : Nat → Int32 := upd (upd (upd (upd f tn (bb v 0)) (tn + 1) (bb v 1)) (tn + 1 + 1) (bb v 2)) (tn + 1 + 1 + 1) (bb v 3)
