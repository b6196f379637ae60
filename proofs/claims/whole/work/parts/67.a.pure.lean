/-! ===== the reference: idle ===== -/
theorem go_0 {hl : xHl} {rv : Option (List Nat)} {r : xRw} (h3 : hl 0 3 ≤ 4) : (goMin hl rv r).1 0 = r 0 + 1 := by
  have e0 : comeGo hl r (hl 0 4) 0 = r 0 := by
    rw [← cg_eq]
    unfold rg
    rw [if_neg (by omega), if_neg (by omega)]
  rw [goMin_fs h3]
  dsimp only
  rw [upd_at, fs_0 h3, takeF_0, e0]
theorem nI_ltm {a b : Nat} (ha : a < 1000000) (hb : b < 1000000) : nI a < nI b ↔ a < b := by
  rw [Int32.lt_iff_toInt_lt, nI_toInt (by omega), nI_toInt (by omega)]
  omega
theorem idle_n {hl : xHl} {rv : Option (List Nat)} {rk : xRw} {n i : Nat} (h3 : hl 0 3 ≤ 4) (hn1 : rk 0 = nI n) (hn2 : n ≤ 1000) (hn3 : hl 0 0 ≤ n + (i + 1)) (o8 : hl 0 0 ≤ 300) (hlt : rk 0 < nI (hl 0 0)) : ∃ m, (goMin hl rv rk).1 0 = nI m ∧ m ≤ 1000 ∧ hl 0 0 ≤ m + i := by
  rw [hn1] at hlt
  have h := (nI_ltm (by omega) (by omega)).mp hlt
  exact ⟨n + 1, by rw [go_0 h3, hn1, nI_1], by omega, by omega⟩
theorem idle_e {hl : xHl} {rk : xRw} {n : Nat} (hn1 : rk 0 = nI n) (hn2 : n ≤ 1000) (hn3 : hl 0 0 ≤ n + 0) (o8 : hl 0 0 ≤ 300) : ¬ rk 0 < nI (hl 0 0) := by
  rw [hn1]
  intro h
  have := (nI_ltm (by omega) (by omega)).mp h
  omega
