/-! ===== the reference's reader: its fields (tape's length, place, fault, slot, entries, deep, counted, opened) ===== -/
def pF (F : Nat → Int32) (tn p f sl en de co op : Nat) : Nat → Int32 := upd (upd (upd (upd (upd (upd (upd (upd F 27 (nI tn)) 28 (nI p)) 29 (nI f)) 30 (nI sl)) 32 (nI en)) 33 (nI de)) 34 (nI co)) 35 (nI op)
