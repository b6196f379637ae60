/-! ===== the reference: what is tried ===== -/
theorem MW.fc {G0 G : xHp} {y : Nat} {hl : xHl} {r : xRw} {sc : Nat × Nat × Int32} {A : Nat → Nat → Int32} {F F' : Nat → Int32} {wa sa : Nat → Int64} (h : MW G0 G y hl r sc A F wa sa) (e : modO y F = modO y F') : MW G0 G y hl r sc A F' wa sa := ⟨h.1.trans (congrArg some e), h.2⟩
def tF (F : Nat → Int32) (p : Int32 × Int32) : Nat → Int32 := upd (upd (cF F 1 3650) 52 p.1) 53 p.2
def trS (p : Int32 × Int32) (w s : Int32) : Int32 × Int32 := if p.2 < s then (w, s) else p
theorem lbH_self (hl : xHl) : lbH hl hl = hl := lbH_same (fun _ _ _ => rfl)
theorem tryF_y {rv : Option (List Nat)} {c : Nat → Option (xHl × xRw)} {b : Int32 × Int32} {i : Nat} {p : xHl × xRw} (h : c i = some p) : trS (tryF rv c b i) (nI i) (savG p.1 rv p.2) = tryF rv c b (i + 1) := (tryF_s h).symm
