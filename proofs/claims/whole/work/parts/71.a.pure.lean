/-! ===== the reference: force, the tape's end ===== -/
theorem in_F (v : Int32) {n : Nat} (hn : n < 1000000) : decide ((-1 : Int64) ≤ v.toInt64 ∧ v.toInt64 ≤ (nI n - nI 1).toInt64) = decide (v = -1 ∨ inR v n = true) := by
  have e : (nI n - nI 1).toInt = (n : Int) - 1 := pk_sub_toInt (by omega) (by decide)
  have e1 : (-1 : Int64) ≤ v.toInt64 ↔ -1 ≤ v.toInt := by rw [Int64.le_iff_toInt_le, Int32.toInt_toInt64]; rfl
  have e2 : v = -1 ↔ v.toInt = -1 := by rw [← Int32.toInt_inj]; rfl
  have e3 : inR v n = true ↔ 0 ≤ v.toInt ∧ v.toInt < (n : Int) := by unfold inR; exact ⟨of_decide_eq_true, decide_eq_true⟩
  apply decide_eq_decide.mpr
  rw [i64_le, e, e1, e2, e3]
  omega
theorem f_at {F : Nat → Int32} {k : Nat} {v : Int32} (h : F k = v) : upd F k v = F := by rw [← h, upd_self]
