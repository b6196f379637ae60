/-! ===== the reference: small things ===== -/
theorem i64_le (a b : Int32) : a.toInt64 ≤ b.toInt64 ↔ a.toInt ≤ b.toInt := by
  rw [Int64.le_iff_toInt_le, Int32.toInt_toInt64, Int32.toInt_toInt64]
theorem i64_0 (a : Int32) : (0 : Int64) ≤ a.toInt64 ↔ 0 ≤ a.toInt := by
  rw [Int64.le_iff_toInt_le, Int32.toInt_toInt64]; rfl
theorem in_R (v : Int32) {n : Nat} (hn : n < 1000000) : decide ((0 : Int64) ≤ v.toInt64 ∧ v.toInt64 ≤ (nI n - nI 1).toInt64) = inR v n := by
  unfold inR
  have e : (nI n - nI 1).toInt = (n : Int) - 1 := pk_sub_toInt (by omega) (by decide)
  apply decide_eq_decide.mpr
  rw [i64_0, i64_le, e]
  omega
theorem skJ_ne {n : Nat} (hn : n < 2 ^ 31) : ¬ skJ n = -1 ↔ 0 < n := by
  unfold skJ
  by_cases e : n = 0
  · rw [if_pos e]; constructor
    · intro h; exact absurd rfl h
    · intro h; omega
  · rw [if_neg e]
    by_cases e9 : n = 999999
    · rw [if_pos e9]; constructor
      · intro h; omega
      · intro h; decide
    · rw [if_neg e9]; constructor
      · intro h; omega
      · intro h; exact nI_ne1 hn
theorem skJ_pos {n : Nat} (h : 0 < n) (h9 : n ≠ 999999) : skJ n = nI n := by unfold skJ; rw [if_neg (by omega), if_neg h9]
theorem skJ_I {n : Nat} (h9 : n ≤ 60) : skJ n = skI n := by
  unfold skJ skI
  by_cases e : n = 0
  · rw [if_pos e, if_pos e]
  · rw [if_neg e, if_neg e, if_neg (by omega)]
def btF (v : Int32) : Nat → Int32
  | 0 => nI 0
  | k + 1 => btF v k + ((v >>> (nI k &&& 31)) &&& nI 1)
theorem bt7 : ∀ b0 b1 b2 b3 b4 b5 b6 : Bool, btF (nI ((if b0 then 1 else 0) + (if b1 then 2 else 0) + (if b2 then 4 else 0) + (if b3 then 8 else 0) + (if b4 then 16 else 0) + (if b5 then 32 else 0) + (if b6 then 64 else 0))) 16 = nI ((if b0 then 1 else 0) + (if b1 then 1 else 0) + (if b2 then 1 else 0) + (if b3 then 1 else 0) + (if b4 then 1 else 0) + (if b5 then 1 else 0) + (if b6 then 1 else 0)) := by decide +kernel
theorem bt_bN (p : Nat → Bool) {n : Nat} (hn : n ≤ 7) : btF (nI (bN p n)) 16 = nI (cntF p n) := by
  match n, hn with
  | 0, _ => simpa [bN, cntF] using bt7 false false false false false false false
  | 1, _ => simpa [bN, cntF] using bt7 (p 0) false false false false false false
  | 2, _ => simpa [bN, cntF] using bt7 (p 0) (p 1) false false false false false
  | 3, _ => simpa [bN, cntF] using bt7 (p 0) (p 1) (p 2) false false false false
  | 4, _ => simpa [bN, cntF] using bt7 (p 0) (p 1) (p 2) (p 3) false false false
  | 5, _ => simpa [bN, cntF] using bt7 (p 0) (p 1) (p 2) (p 3) (p 4) false false
  | 6, _ => simpa [bN, cntF] using bt7 (p 0) (p 1) (p 2) (p 3) (p 4) (p 5) false
  | 7, _ => simpa [bN, cntF] using bt7 (p 0) (p 1) (p 2) (p 3) (p 4) (p 5) (p 6)
  | n + 8, h => omega
theorem bitsOf_bt (hl : xHl) (r : xRw) (how : Int32) (h : hl 0 4 ≤ 7) : btF (bitsOf hl r how) 16 = nI (cntF (fun t => decide (r (21 + t) = how)) (hl 0 4)) := by
  unfold bitsOf
  rw [bits_bN hl r how _ h, bt_bN _ h]
theorem or_nl0 (a : Int32) : a ||| nI 0 = a := by rw [nl0]; exact Int32.or_zero
theorem add_nl0 (a : Int32) : a + nI 0 = a := by rw [nl0]; exact Int32.add_zero a
theorem sub_nl0 (a : Int32) : a - nI 0 = a := by rw [nl0]; exact Int32.sub_zero a
