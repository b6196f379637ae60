/-! ===== the reference's reader: digits ===== -/
theorem in_dg {n : Nat} (hn : n < 256) : decide ((48 : Int64) ≤ (nI n).toInt64 ∧ (nI n).toInt64 ≤ (57 : Int64)) = decide (48 ≤ n ∧ n ≤ 57) := by
  apply decide_eq_decide.mpr
  have e1 : (48 : Int64) ≤ (nI n).toInt64 ↔ 48 ≤ (nI n).toInt := by rw [Int64.le_iff_toInt_le, Int32.toInt_toInt64]; rfl
  have e2 : (nI n).toInt64 ≤ (57 : Int64) ↔ (nI n).toInt ≤ 57 := by rw [Int64.le_iff_toInt_le, Int32.toInt_toInt64]; rfl
  rw [e1, e2, nI_toInt (by omega)]
  omega
