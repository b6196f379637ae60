/-! ===== the reference: coffee, ahead ===== -/
theorem in_400 (w : Int32) : decide ((0 : Int64) ≤ w.toInt64 ∧ w.toInt64 ≤ (400 : Int64)) = inR w 401 := by
  unfold inR
  apply decide_eq_decide.mpr
  have e2 : w.toInt64 ≤ (400 : Int64) ↔ w.toInt ≤ 400 := by rw [Int64.le_iff_toInt_le, Int32.toInt_toInt64]; rfl
  rw [i64_0, e2]
  omega
theorem in_01 (w : Int32) : decide ((0 : Int64) ≤ w.toInt64 ∧ w.toInt64 ≤ (1 : Int64)) = inR w 2 := by
  unfold inR
  apply decide_eq_decide.mpr
  have e2 : w.toInt64 ≤ (1 : Int64) ↔ w.toInt ≤ 1 := by rw [Int64.le_iff_toInt_le, Int32.toInt_toInt64]; rfl
  rw [i64_0, e2]
  omega
