/-! ===== the reference: images ===== -/
def ImK (im : Nat → Int32) (k : Nat) (hl : xHl) (r : xRw) (sc : Nat × Nat × Int32) (A : Nat → Nat → Int32) : Prop := ∀ i j, i < 20 → j < mln (ord i) → im (900 * k + ofs i + j) = ovr A hl r sc (ord i) j
def bkA (A A' : Nat → Nat → Int32) : Nat → Nat → Int32 := fun i => if i = 15 ∨ i = 16 ∨ i = 17 ∨ i = 37 ∨ i = 38 then A' i else A i
theorem Im_sv {A : Nat → Nat → Int32} {hl : xHl} {r : xRw} {sc : Nat × Nat × Int32} {k : Nat} : ImK (svI (ovr A hl r sc) (900 * k) 20) k hl r sc A := by
  intro i j hi hj
  rw [svI_in hj 20 hi]
theorem bk_eq {A A' : Nat → Nat → Int32} {hl hl2 : xHl} {r r2 : xRw} {sc sc2 : Nat × Nat × Int32} {g : Nat → Int32} {n : Nat} (hk : ImK (A 44) n hl r sc A') : ∀ k, 1 ≤ k → k ≤ 45 → k ≠ 35 → k ≠ 36 → ∀ j, j < mln k → ldX (setA (ovr A hl2 r2 sc2) 38 g) (900 * n) 20 k j = ovr (bkA A A') hl r sc k j := by
  intro k h1 h2 h3 h4 j hj
  by_cases q : ∃ i, i < 20 ∧ k = ord i
  · obtain ⟨i, hi, e⟩ := q
    subst e
    rw [ldX_in 20 (by decide) hi]
    unfold ldF
    rw [if_pos hj]
    show A 44 (900 * n + ofs i + j) = _
    rw [hk i j hi hj]
    match i, hi with
    | 0, _ => rfl
    | 1, _ => rfl
    | 2, _ => rfl
    | 3, _ => rfl
    | 4, _ => rfl
    | 5, _ => rfl
    | 6, _ => rfl
    | 7, _ => rfl
    | 8, _ => rfl
    | 9, _ => rfl
    | 10, _ => rfl
    | 11, _ => rfl
    | 12, _ => rfl
    | 13, _ => rfl
    | 14, _ => rfl
    | 15, _ => rfl
    | 16, _ => rfl
    | 17, _ => rfl
    | 18, _ => rfl
    | 19, _ => rfl
    | m + 20, hm => exact absurd hm (by omega)
  · have qq : ∀ i, i < 20 → k ≠ ord i := fun i hi e => q ⟨i, hi, e⟩
    rw [ldX_out 20 qq]
    have q0 : k ≠ 1 := qq 0 (by decide)
    have q1 : k ≠ 3 := qq 1 (by decide)
    have q2 : k ≠ 5 := qq 2 (by decide)
    have q3 : k ≠ 6 := qq 3 (by decide)
    have q4 : k ≠ 7 := qq 4 (by decide)
    have q5 : k ≠ 8 := qq 5 (by decide)
    have q6 : k ≠ 13 := qq 6 (by decide)
    have q7 : k ≠ 14 := qq 7 (by decide)
    have q8 : k ≠ 10 := qq 8 (by decide)
    have q9 : k ≠ 38 := qq 9 (by decide)
    have q10 : k ≠ 2 := qq 10 (by decide)
    have q11 : k ≠ 4 := qq 11 (by decide)
    have q12 : k ≠ 9 := qq 12 (by decide)
    have q13 : k ≠ 11 := qq 13 (by decide)
    have q14 : k ≠ 12 := qq 14 (by decide)
    have q15 : k ≠ 15 := qq 15 (by decide)
    have q16 : k ≠ 16 := qq 16 (by decide)
    have q17 : k ≠ 17 := qq 17 (by decide)
    have q18 : k ≠ 18 := qq 18 (by decide)
    have q19 : k ≠ 37 := qq 19 (by decide)
    rw [setA_ne q9]
    unfold ovr
    rw [if_neg q0, if_neg q10, if_neg q1, if_neg q11, if_neg q2, if_neg q3, if_neg q4, if_neg q5, if_neg q12, if_neg q8, if_neg q13, if_neg q14, if_neg q6, if_neg q7, if_neg q18, if_neg q0, if_neg q10, if_neg q1, if_neg q11, if_neg q2, if_neg q3, if_neg q4, if_neg q5, if_neg q12, if_neg q8, if_neg q13, if_neg q14, if_neg q6, if_neg q7, if_neg q18]
    unfold bkA
    rw [if_neg (by omega)]
theorem in_3 (w : Int32) : decide ((0 : Int64) ≤ w.toInt64 ∧ w.toInt64 ≤ (3 : Int64)) = inR w 4 := by
  unfold inR
  apply decide_eq_decide.mpr
  have e2 : w.toInt64 ≤ (3 : Int64) ↔ w.toInt ≤ 3 := by rw [Int64.le_iff_toInt_le, Int32.toInt_toInt64]; rfl
  rw [i64_0, e2]
  omega
