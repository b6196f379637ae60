/-! ===== Hall ===== -/
def Fr (G G' : xHp) (b n : Nat) : Prop := ∀ a, (a < b ∨ b + n ≤ a) → G' a = G a
theorem Fr.rf {G : xHp} {b n : Nat} : Fr G G b n := fun _ _ => rfl
theorem Fr.tr {G G1 G2 : xHp} {b n : Nat} (h1 : Fr G G1 b n) (h2 : Fr G1 G2 b n) : Fr G G2 b n := fun a h => (h2 a h).trans (h1 a h)
theorem Fr.up {G : xHp} {b n a : Nat} {e : xE} (h : b ≤ a) (h2 : a < b + n) : Fr G (xup G a e) b n := fun c hc => xup_ne (by omega)
theorem Fr.up1 {G G1 : xHp} {b n a : Nat} {e : xE} (hF : Fr G G1 b n) (h : b ≤ a) (h2 : a < b + n) : Fr G (xup G1 a e) b n := hF.tr (Fr.up h h2)
theorem Fr.wide {G G' : xHp} {b n b' n' : Nat} (hF : Fr G G' b n) (h : b' ≤ b) (h2 : b + n ≤ b' + n') : Fr G G' b' n' := fun c hc => hF c (by omega)
def set2 (hl : Nat → Nat → Nat) (i j v : Nat) : Nat → Nat → Nat := fun a b => if a = i ∧ b = j then v else hl a b
abbrev hallO (b : Nat) (hl : Nat → Nat → Nat) : xE := eO 3 [.int (nI (hl 0 0)), .int (nI (hl 0 1)), .int (nI (hl 0 2)), .int (nI (hl 0 3)), .int (nI (hl 0 4)), .ref (b + 1), .ref (b + 2), .ref (b + 3), .ref (b + 4), .ref (b + 5), .ref (b + 6), .ref (b + 7)]
abbrev nF (g : Nat → Nat) : Nat → Int32 := fun j => nI (g j)
def HallAt (G : xHp) (b : Nat) (hl : Nat → Nat → Nat) : Prop := G b = some (hallO b hl) ∧ G (b + 1) = some (eI 0 4 (nF (hl 1))) ∧ G (b + 2) = some (eI 0 4 (nF (hl 2))) ∧ G (b + 3) = some (eI 0 16 (nF (hl 3))) ∧ G (b + 4) = some (eI 0 7 (nF (hl 4))) ∧ G (b + 5) = some (eI 0 7 (nF (hl 5))) ∧ G (b + 6) = some (eI 0 7 (nF (hl 6))) ∧ G (b + 7) = some (eI 0 7 (nF (hl 7))) ∧ ∀ i j, hl i j < 1000000
theorem HallAt.fr {G G' : xHp} {b : Nat} {hl : Nat → Nat → Nat} (h : HallAt G b hl) (hf : ∀ a, b ≤ a → a < b + 8 → G' a = G a) : HallAt G' b hl := by
  obtain ⟨h0, h1, h2, h3, h4, h5, h6, h7, h8⟩ := h
  exact ⟨(hf _ (by omega) (by omega)).trans h0, (hf _ (by omega) (by omega)).trans h1, (hf _ (by omega) (by omega)).trans h2, (hf _ (by omega) (by omega)).trans h3, (hf _ (by omega) (by omega)).trans h4, (hf _ (by omega) (by omega)).trans h5, (hf _ (by omega) (by omega)).trans h6, (hf _ (by omega) (by omega)).trans h7, h8⟩
def inR (v : Int32) (n : Nat) : Bool := decide (0 ≤ v.toInt ∧ v.toInt < (n : Int))
theorem inR_neg {v : Int32} {n : Nat} (h : v < 0) : inR v n = false := by
  have : v.toInt < 0 := by simpa using Int32.lt_iff_toInt_lt.mp h
  simp [inR]; omega
theorem inR_ge {v : Int32} {n : Nat} (hn : n < 2 ^ 31) (h : nI n ≤ v) : inR v n = false := by
  have := Int32.le_iff_toInt_le.mp h
  rw [nI_toInt hn] at this
  simp [inR]; omega
theorem inR_in {v : Int32} {n : Nat} (hn : n < 2 ^ 31) (h0 : ¬ v < 0) (h : ¬ nI n ≤ v) : inR v n = true := by
  have h1 : ¬ v.toInt < 0 := fun q => h0 (Int32.lt_iff_toInt_lt.mpr (by simpa using q))
  have h2 : ¬ (n : Int) ≤ v.toInt := fun q => h (Int32.le_iff_toInt_le.mpr (by rw [nI_toInt hn]; exact q))
  simp [inR]; omega
theorem inR_of {v : Int32} {n : Nat} (h : inR v n = true) : ∃ k, k < n ∧ v = nI k := by
  simp [inR] at h
  exact ⟨v.toInt.toNat, by omega, xsw_to v _ (by omega)⟩
theorem inR_nI {k n : Nat} (hk : k < 2 ^ 31) : inR (nI k) n = decide (k < n) := by
  simp [inR, nI_toInt hk]
theorem Hall_isSort {K : xG} {h b : Nat} {G : xHp} {hl : Nat → Nat → Nat} {v : Int32} (hH : HallAt G b hl) : xCall K mX3_isSort 0 0 0 [.ref b, .int v] h G (xRet (some (.int (bI (inR v (hl 0 2))))) h G) := by
  refine x_entry (by decide) (ls := [(0, .ref b), (1, .int v)]) rfl (Nat.le_of_ble_eq_true rfl) ?_
  have hB := hH.2.2.2.2.2.2.2.2
  refine x_iload_n dX3_isSort_0 1 rfl ?_
  refine x_if_lt (tgt := 16) dX3_isSort_1 (by decide) (fun c1 => ?_) (fun c1 => ?_)
  · refine x_iconst dX3_isSort_16 ki_0 ?_
    exact x_zret dX3_isSort_17 rfl (by first | rfl | decide | exact bI_nar _) (xRet_e (by rw [inR_neg c1]; rfl) rfl)
  · refine x_iload_n dX3_isSort_4 1 rfl ?_
    refine x_aload_n dX3_isSort_5 0 rfl ?_
    refine x_get dX3_isSort_6 fX3_33 (hH.1) rfl ?_
    refine x_icmp_ge (x := v) (y := nI (hl 0 2)) (tgt := 16) dX3_isSort_9 (by decide) (fun c9 => ?_) (fun c9 => ?_)
    · refine x_iconst dX3_isSort_16 ki_0 ?_
      exact x_zret dX3_isSort_17 rfl (by first | rfl | decide | exact bI_nar _) (xRet_e (by rw [inR_ge (by have := hB 0 2; have := hB 0 3; have := hB 0 4; omega) c9]; rfl) rfl)
    · refine x_iconst dX3_isSort_12 ki_1 ?_
      refine x_goto (tgt := 17) dX3_isSort_13 (by decide) ?_
      exact x_zret dX3_isSort_17 rfl (by first | rfl | decide | exact bI_nar _) (xRet_e (by rw [inR_in (by have := hB 0 2; have := hB 0 3; have := hB 0 4; omega) c1 c9]; rfl) rfl)
theorem Hall_isMender {K : xG} {h b : Nat} {G : xHp} {hl : Nat → Nat → Nat} {v : Int32} (hH : HallAt G b hl) : xCall K mX3_isMender 0 0 0 [.ref b, .int v] h G (xRet (some (.int (bI (inR v (hl 0 3))))) h G) := by
  refine x_entry (by decide) (ls := [(0, .ref b), (1, .int v)]) rfl (Nat.le_of_ble_eq_true rfl) ?_
  have hB := hH.2.2.2.2.2.2.2.2
  refine x_iload_n dX3_isMender_0 1 rfl ?_
  refine x_if_lt (tgt := 16) dX3_isMender_1 (by decide) (fun c1 => ?_) (fun c1 => ?_)
  · refine x_iconst dX3_isMender_16 ki_0 ?_
    exact x_zret dX3_isMender_17 rfl (by first | rfl | decide | exact bI_nar _) (xRet_e (by rw [inR_neg c1]; rfl) rfl)
  · refine x_iload_n dX3_isMender_4 1 rfl ?_
    refine x_aload_n dX3_isMender_5 0 rfl ?_
    refine x_get dX3_isMender_6 fX3_37 (hH.1) rfl ?_
    refine x_icmp_ge (x := v) (y := nI (hl 0 3)) (tgt := 16) dX3_isMender_9 (by decide) (fun c9 => ?_) (fun c9 => ?_)
    · refine x_iconst dX3_isMender_16 ki_0 ?_
      exact x_zret dX3_isMender_17 rfl (by first | rfl | decide | exact bI_nar _) (xRet_e (by rw [inR_ge (by have := hB 0 2; have := hB 0 3; have := hB 0 4; omega) c9]; rfl) rfl)
    · refine x_iconst dX3_isMender_12 ki_1 ?_
      refine x_goto (tgt := 17) dX3_isMender_13 (by decide) ?_
      exact x_zret dX3_isMender_17 rfl (by first | rfl | decide | exact bI_nar _) (xRet_e (by rw [inR_in (by have := hB 0 2; have := hB 0 3; have := hB 0 4; omega) c1 c9]; rfl) rfl)
theorem Hall_isThing {K : xG} {h b : Nat} {G : xHp} {hl : Nat → Nat → Nat} {v : Int32} (hH : HallAt G b hl) : xCall K mX3_isThing 0 0 0 [.ref b, .int v] h G (xRet (some (.int (bI (inR v (hl 0 4))))) h G) := by
  refine x_entry (by decide) (ls := [(0, .ref b), (1, .int v)]) rfl (Nat.le_of_ble_eq_true rfl) ?_
  have hB := hH.2.2.2.2.2.2.2.2
  refine x_iload_n dX3_isThing_0 1 rfl ?_
  refine x_if_lt (tgt := 16) dX3_isThing_1 (by decide) (fun c1 => ?_) (fun c1 => ?_)
  · refine x_iconst dX3_isThing_16 ki_0 ?_
    exact x_zret dX3_isThing_17 rfl (by first | rfl | decide | exact bI_nar _) (xRet_e (by rw [inR_neg c1]; rfl) rfl)
  · refine x_iload_n dX3_isThing_4 1 rfl ?_
    refine x_aload_n dX3_isThing_5 0 rfl ?_
    refine x_get dX3_isThing_6 fX3_40 (hH.1) rfl ?_
    refine x_icmp_ge (x := v) (y := nI (hl 0 4)) (tgt := 16) dX3_isThing_9 (by decide) (fun c9 => ?_) (fun c9 => ?_)
    · refine x_iconst dX3_isThing_16 ki_0 ?_
      exact x_zret dX3_isThing_17 rfl (by first | rfl | decide | exact bI_nar _) (xRet_e (by rw [inR_ge (by have := hB 0 2; have := hB 0 3; have := hB 0 4; omega) c9]; rfl) rfl)
    · refine x_iconst dX3_isThing_12 ki_1 ?_
      refine x_goto (tgt := 17) dX3_isThing_13 (by decide) ?_
      exact x_zret dX3_isThing_17 rfl (by first | rfl | decide | exact bI_nar _) (xRet_e (by rw [inR_in (by have := hB 0 2; have := hB 0 3; have := hB 0 4; omega) c1 c9]; rfl) rfl)
theorem Hall_skillOf {K : xG} {h b : Nat} {G : xHp} {hl : Nat → Nat → Nat} {q s : Nat} (hH : HallAt G b hl) (hq : q < 4) (hs : s < 4) : xCall K mX3_skillOf 0 0 0 [.ref b, .int (nI q), .int (nI s)] h G (xRet (some (.int (nI (hl 3 (q * 4 + s))))) h G) := by
  refine x_entry (by decide) (ls := [(0, .ref b), (1, .int (nI q)), (2, .int (nI s))]) rfl (Nat.le_of_ble_eq_true rfl) ?_
  refine x_iload_n dX3_skillOf_0 1 rfl ?_
  refine x_iconst dX3_skillOf_1 ki_4 ?_
  refine x_imulN dX3_skillOf_2 ?_
  refine x_iload_n dX3_skillOf_3 2 rfl ?_
  refine x_iaddN dX3_skillOf_4 ?_
  refine x_istore_n (ls' := [(3, .int (nI ((q * 4) + s))), (0, .ref b), (1, .int (nI q)), (2, .int (nI s))]) dX3_skillOf_5 (by decide) rfl ?_
  refine x_iload_n dX3_skillOf_6 0 rfl ?_
  refine x_ifN_lt (tgt := 28) dX3_skillOf_7 (by decide) (by omega) (fun c7 => ?_) (fun c7 => ?_)
  · exact absurd c7 id
  · refine x_iload_n dX3_skillOf_10 0 rfl ?_
    refine x_aload_n dX3_skillOf_11 1 rfl ?_
    refine x_get dX3_skillOf_12 fX3_18 (hH.1) rfl ?_
    refine x_alen dX3_skillOf_15 (by decide) (hH.2.2.2.1) ?_
    refine x_icmpN_ge (tgt := 28) dX3_skillOf_16 (by decide) (by omega) (by omega) (fun c16 => ?_) (fun c16 => ?_)
    · exact absurd c16 (by omega)
    · refine x_aload_n dX3_skillOf_19 1 rfl ?_
      refine x_get dX3_skillOf_20 fX3_18 (hH.1) rfl ?_
      refine x_iload_n dX3_skillOf_23 0 rfl ?_
      refine x_ialdN dX3_skillOf_24 (hH.2.2.2.1) (by omega) (by decide) ?_
      refine x_goto (tgt := 29) dX3_skillOf_25 (by decide) ?_
      exact x_iret dX3_skillOf_29 rfl (xRet_i)
