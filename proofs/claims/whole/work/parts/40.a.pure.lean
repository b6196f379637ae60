/-! ===== what the class answers ===== -/
theorem inR_le {v : Int32} {m : Nat} (hm : m < 1000000) (h0 : ¬ v < 0) (h : v ≤ nI m) : inR v (m + 1) = true := by
  have h1 : ¬ v.toInt < 0 := fun q => h0 (Int32.lt_iff_toInt_lt.mpr (by simpa using q))
  have h2 := Int32.le_iff_toInt_le.mp h
  rw [nI_toInt (by omega)] at h2
  simp [inR]; omega
theorem inR_gt {v : Int32} {m : Nat} (hm : m < 1000000) (h : ¬ v ≤ nI m) : inR v (m + 1) = false := by
  have h2 : ¬ v.toInt ≤ (m : Int) := fun q => h (Int32.le_iff_toInt_le.mpr (by rw [nI_toInt (by omega)]; exact q))
  simp [inR]; omega
theorem inR_th {v : Int32} {n : Nat} (h : inR v n = true) : thN v < n ∧ v = nI (thN v) := by
  obtain ⟨k, h1, h2⟩ := inR_of h
  have : k < 2 ^ 31 ∨ 2 ^ 31 ≤ k := by omega
  have hv : 0 ≤ v.toInt ∧ v.toInt < (n : Int) := of_decide_eq_true h
  have e : v = nI (thN v) := xsw_to v _ (by unfold thN; omega)
  exact ⟨by unfold thN; omega, e⟩
def skI (n : Nat) : Int32 := if n = 0 then -1 else nI n
def byB (v : Int32) (i : Nat) : Nat := thN ((v >>> (nI (24 - 8 * i) &&& 31)) &&& nI 255)
theorem and255 (w : Int32) : w &&& nI 255 = nI (thN (w &&& nI 255)) ∧ thN (w &&& nI 255) < 256 := by
  obtain ⟨j, h1, h2⟩ := pk_andE w (m := nI 255) 8 (by decide)
  rw [h2, thN_nI (by omega)]
  exact ⟨rfl, h1⟩
def putF (tp : Nat → Nat) (tn : Nat) (v : Int32) : Nat → Nat := fun j => if tn ≤ j ∧ j < tn + 4 then byB v (j - tn) else tp j
theorem putF_lt {tp : Nat → Nat} (h : ∀ j, tp j < 256) (tn : Nat) (v : Int32) : ∀ j, putF tp tn v j < 256 := by
  intro j
  unfold putF
  split
  · exact (and255 _).2
  · exact h j
theorem putF_4 (tp : Nat → Nat) (tn : Nat) (v : Int32) : upd (upd (upd (upd (nF tp) tn (nI (byB v 0))) (tn + 1) (nI (byB v 1))) (tn + 1 + 1) (nI (byB v 2))) (tn + 1 + 1 + 1) (nI (byB v 3)) = nF (putF tp tn v) := by
  funext j
  unfold upd nF putF
  by_cases h3 : j = tn + 1 + 1 + 1
  · rw [if_pos h3, if_pos (by omega), show j - tn = 3 by omega]
  · rw [if_neg h3]
    by_cases h2 : j = tn + 1 + 1
    · rw [if_pos h2, if_pos (by omega), show j - tn = 2 by omega]
    · rw [if_neg h2]
      by_cases h1 : j = tn + 1
      · rw [if_pos h1, if_pos (by omega), show j - tn = 1 by omega]
      · rw [if_neg h1]
        by_cases h0 : j = tn
        · rw [if_pos h0, if_pos (by omega), show j - tn = 0 by omega]
        · rw [if_neg h0, if_neg (by omega)]
def feedT (tp : Nat → Nat) (tn : Nat) (a b c d e : Int32) : Nat → Nat := putF (putF (putF (putF (putF tp tn a) (tn + 4) b) (tn + 4 + 4) c) (tn + 4 + 4 + 4) d) (tn + 4 + 4 + 4 + 4) e
def thingS (hl : xHl) (r : xRw) (v w : Int32) : Int32 := if inR v (hl 0 4) = true then (if w = nI 0 then nI (hl 4 (thN v)) else if w = nI 1 then nI (hl 5 (thN v)) else if w = nI 2 then nI (hl 6 (thN v)) else if w = nI 3 then nI (hl 7 (thN v)) else if w = nI 4 then r (21 + thN v) else if w = nI 5 then r (28 + thN v) else -2) else -2
def menderS (hl : xHl) (r : xRw) (v w : Int32) : Int32 := if inR v (hl 0 3) = true then (if w = nI 0 then r (5 + thN v) else if w = nI 1 then r (9 + thN v) else if w = nI 2 then r (13 + thN v) else if w = nI 3 then r (17 + thN v) else if w = nI 4 then skI (hl 3 (thN v * 4 + 0)) else if w = nI 5 then skI (hl 3 (thN v * 4 + 1)) else if w = nI 6 then skI (hl 3 (thN v * 4 + 2)) else if w = nI 7 then skI (hl 3 (thN v * 4 + 3)) else -2) else -2
def sortS (hl : xHl) (r : xRw) (v w : Int32) : Int32 := if inR v (hl 0 2) = true ∧ inR w 2 = true then (if w = 0 then nI (hl 1 (thN v)) else r (1 + thN v)) else -1
def countS (hl : xHl) (r : xRw) (rc : Nat) (fo : Int32) (bn ac xx tn : Nat) (w : Int32) : Int32 := if w = nI 0 then nI (hl 0 0) else if w = nI 1 then nI (hl 0 1) else if w = nI 2 then nI (hl 0 2) else if w = nI 3 then nI (hl 0 3) else if w = nI 4 then nI (hl 0 4) else if w = nI 5 then nI rc else if w = nI 6 then fo else if w = nI 7 then r 0 else if w = nI 8 then bitsOf hl r (nI 1) else if w = nI 9 then bitsOf hl r (nI 2) else if w = nI 10 then bitsOf hl r (nI 3) else if w = nI 11 then bitsOf hl r (nI 4) else if w = nI 12 then savedS hl r else if w = nI 13 then nI bn else if w = nI 14 then nI ac else if w = nI 15 then nI xx else if w = nI 16 then nI tn else -1
