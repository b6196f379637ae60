/-! ===== the reference: numbers of its own ===== -/
theorem scal_6 {hl : xHl} {r : xRw} {sc : Nat × Nat × Int32} {n : Nat} : ∀ j, j < 9 → upd (scal hl r sc) 6 (nI n) j = scal hl r (n, sc.2) j := by
  intro j hj
  by_cases q : j = 6
  · subst q; rw [upd_at]; rfl
  · rw [upd_off q]; unfold scal
    by_cases h1 : j < 5
    · rw [if_pos h1, if_pos h1]
    · rw [if_neg h1, if_neg h1]
      by_cases h2 : j = 5
      · rw [if_pos h2, if_pos h2]
      · rw [if_neg h2, if_neg h2, if_neg q, if_neg q]
theorem scal_7 {hl : xHl} {r : xRw} {sc : Nat × Nat × Int32} {n : Nat} : ∀ j, j < 9 → upd (scal hl r sc) 7 (nI n) j = scal hl r (sc.1, n, sc.2.2) j := by
  intro j hj
  by_cases q : j = 7
  · subst q; rw [upd_at]; rfl
  · rw [upd_off q]; unfold scal
    by_cases h1 : j < 5
    · rw [if_pos h1, if_pos h1]
    · rw [if_neg h1, if_neg h1]
      by_cases h2 : j = 5
      · rw [if_pos h2, if_pos h2]
      · rw [if_neg h2, if_neg h2]
        by_cases h3 : j = 6
        · rw [if_pos h3, if_pos h3]
        · rw [if_neg h3, if_neg h3, if_neg q, if_neg q]
theorem scal_8 {hl : xHl} {r : xRw} {sc : Nat × Nat × Int32} {v : Int32} : ∀ j, j < 9 → upd (scal hl r sc) 8 v j = scal hl r (sc.1, sc.2.1, v) j := by
  intro j hj
  by_cases q : j = 8
  · subst q; rw [upd_at]; rfl
  · rw [upd_off q]; unfold scal
    by_cases h1 : j < 5
    · rw [if_pos h1, if_pos h1]
    · rw [if_neg h1, if_neg h1]
      by_cases h2 : j = 5
      · rw [if_pos h2, if_pos h2]
      · rw [if_neg h2, if_neg h2]
        by_cases h3 : j = 6
        · rw [if_pos h3, if_pos h3]
        · rw [if_neg h3, if_neg h3, if_pos (by omega), if_pos (by omega)]
theorem MW.s1c {G0 G : xHp} {y : Nat} {hl : xHl} {r : xRw} {sc : Nat × Nat × Int32} {A : Nat → Nat → Int32} {F : Nat → Int32} {wa sa : Nat → Int64} (h : MW G0 G y hl r sc A F wa sa) (sc' : Nat × Nat × Int32) : MW G0 (xup G (y + 1) (eI 0 9 (scal hl r sc'))) y hl r sc' A F wa sa := by
  refine h.cell 1 (by omega) (by omega) rfl (fun i a b q => ?_) h.2.2.2
  have e : ovr A hl r sc' i = ovr A hl r sc i := by
    unfold ovr
    rw [if_neg q, if_neg q]
  unfold mcell; rw [e]
theorem in_399 (w : Int32) : decide ((0 : Int64) ≤ w.toInt64 ∧ w.toInt64 ≤ (399 : Int64)) = inR w 400 := by
  unfold inR
  apply decide_eq_decide.mpr
  have e2 : w.toInt64 ≤ (399 : Int64) ↔ w.toInt ≤ 399 := by rw [Int64.le_iff_toInt_le, Int32.toInt_toInt64]; rfl
  rw [i64_0, e2]
  omega
theorem in_4 (w : Int32) : decide ((0 : Int64) ≤ w.toInt64 ∧ w.toInt64 ≤ (4 : Int64)) = inR w 5 := by
  unfold inR
  apply decide_eq_decide.mpr
  have e2 : w.toInt64 ≤ (4 : Int64) ↔ w.toInt ≤ 4 := by rw [Int64.le_iff_toInt_le, Int32.toInt_toInt64]; rfl
  rw [i64_0, e2]
  omega
