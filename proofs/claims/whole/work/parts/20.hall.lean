/-! ===== Hall ===== -/
def Fr (G G' : xHp) (b n : Nat) : Prop := ∀ a, (a < b ∨ b + n ≤ a) → G' a = G a
theorem Fr.rf {G : xHp} {b n : Nat} : Fr G G b n := fun _ _ => rfl
theorem Fr.tr {G G1 G2 : xHp} {b n : Nat} (h1 : Fr G G1 b n) (h2 : Fr G1 G2 b n) : Fr G G2 b n := fun a h => (h2 a h).trans (h1 a h)
theorem Fr.up {G : xHp} {b n a : Nat} {e : xE} (h : b ≤ a) (h2 : a < b + n) : Fr G (xup G a e) b n := fun c hc => xup_ne (by omega)
theorem Fr.up1 {G G1 : xHp} {b n a : Nat} {e : xE} (hF : Fr G G1 b n) (h : b ≤ a) (h2 : a < b + n) : Fr G (xup G1 a e) b n := hF.tr (Fr.up h h2)
theorem Fr.wide {G G' : xHp} {b n b' n' : Nat} (hF : Fr G G' b n) (h : b' ≤ b) (h2 : b + n ≤ b' + n') : Fr G G' b' n' := fun c hc => hF c (by omega)
def set2 (hl : Nat → Nat → Nat) (i j v : Nat) : Nat → Nat → Nat := fun a b => if a = i ∧ b = j then v else hl a b
abbrev hallO (b : Nat) (hl : Nat → Nat → Nat) : xE := eO 3 [.int (nI (hl 0 0)), .int (nI (hl 0 1)), .int (nI (hl 0 2)), .int (nI (hl 0 3)), .int (nI (hl 0 4)), .ref (b + 1), .ref (b + 2), .ref (b + 3), .ref (b + 4), .ref (b + 5), .ref (b + 6), .ref (b + 7)]
abbrev nF (g : Nat → Nat) : Nat → Int32 := fun j => nI (g j)
def HallAt (G : xHp) (b : Nat) (hl : Nat → Nat → Nat) : Prop := G b = some (hallO b hl) ∧ G (b + 1) = some (eI 0 4 (nF (hl 1))) ∧ G (b + 2) = some (eI 0 4 (nF (hl 2))) ∧ G (b + 3) = some (eI 0 16 (nF (hl 3))) ∧ G (b + 4) = some (eI 0 7 (nF (hl 4))) ∧ G (b + 5) = some (eI 0 7 (nF (hl 5))) ∧ G (b + 6) = some (eI 0 7 (nF (hl 6))) ∧ G (b + 7) = some (eI 0 7 (nF (hl 7))) ∧ ∀ i j, hl i j < 1000000
theorem HallAt.fr {G G' : xHp} {b : Nat} {hl : Nat → Nat → Nat} (h : HallAt G b hl) (hf : ∀ a, b ≤ a → a < b + 8 → G' a = G a) : HallAt G' b hl := by
  obtain ⟨h0, h1, h2, h3, h4, h5, h6, h7, h8⟩ := h
  exact ⟨(hf _ (by omega) (by omega)).trans h0, (hf _ (by omega) (by omega)).trans h1, (hf _ (by omega) (by omega)).trans h2, (hf _ (by omega) (by omega)).trans h3, (hf _ (by omega) (by omega)).trans h4, (hf _ (by omega) (by omega)).trans h5, (hf _ (by omega) (by omega)).trans h6, (hf _ (by omega) (by omega)).trans h7, h8⟩
def inR (v : Int32) (n : Nat) : Bool := decide (0 ≤ v.toInt ∧ v.toInt < (n : Int))
theorem inR_neg {v : Int32} {n : Nat} (h : v < 0) : inR v n = false := by
  have : v.toInt < 0 := by simpa using Int32.lt_iff_toInt_lt.mp h
  simp [inR]; omega
theorem inR_ge {v : Int32} {n : Nat} (hn : n < 2 ^ 31) (h : nI n ≤ v) : inR v n = false := by
  have := Int32.le_iff_toInt_le.mp h
  rw [nI_toInt hn] at this
  simp [inR]; omega
theorem inR_in {v : Int32} {n : Nat} (hn : n < 2 ^ 31) (h0 : ¬ v < 0) (h : ¬ nI n ≤ v) : inR v n = true := by
  have h1 : ¬ v.toInt < 0 := fun q => h0 (Int32.lt_iff_toInt_lt.mpr (by simpa using q))
  have h2 : ¬ (n : Int) ≤ v.toInt := fun q => h (Int32.le_iff_toInt_le.mpr (by rw [nI_toInt hn]; exact q))
  simp [inR]; omega
theorem inR_of {v : Int32} {n : Nat} (h : inR v n = true) : ∃ k, k < n ∧ v = nI k := by
  simp [inR] at h
  exact ⟨v.toInt.toNat, by omega, xsw_to v _ (by omega)⟩
theorem inR_nI {k n : Nat} (hk : k < 2 ^ 31) : inR (nI k) n = decide (k < n) := by
  simp [inR, nI_toInt hk]
theorem Hall_isSort {K : xG} {h b : Nat} {G : xHp} {hl : Nat → Nat → Nat} {v : Int32} (hH : HallAt G b hl) : xCall K mX3_isSort 0 0 0 [.ref b, .int v] h G (xRet (some (.int (bI (inR v (hl 0 2))))) h G) := by
  refine x_entry (by decide) (ls := [(0, .ref b), (1, .int v)]) rfl (Nat.le_of_ble_eq_true rfl) ?_
  have hB := hH.2.2.2.2.2.2.2.2
  refine x_iload_n dX3_isSort_0 1 rfl ?_
  refine x_if_lt (tgt := 16) dX3_isSort_1 (by decide) (fun c1 => ?_) (fun c1 => ?_)
  · refine x_iconst dX3_isSort_16 ki_0 ?_
    exact x_zret dX3_isSort_17 rfl (by first | rfl | decide | exact bI_nar _) (xRet_e (by rw [inR_neg c1]; rfl) rfl)
  · refine x_iload_n dX3_isSort_4 1 rfl ?_
    refine x_aload_n dX3_isSort_5 0 rfl ?_
    refine x_get dX3_isSort_6 fX3_33 (hH.1) rfl ?_
    refine x_icmp_ge (x := v) (y := nI (hl 0 2)) (tgt := 16) dX3_isSort_9 (by decide) (fun c9 => ?_) (fun c9 => ?_)
    · refine x_iconst dX3_isSort_16 ki_0 ?_
      exact x_zret dX3_isSort_17 rfl (by first | rfl | decide | exact bI_nar _) (xRet_e (by rw [inR_ge (by have := hB 0 2; have := hB 0 3; have := hB 0 4; omega) c9]; rfl) rfl)
    · refine x_iconst dX3_isSort_12 ki_1 ?_
      refine x_goto (tgt := 17) dX3_isSort_13 (by decide) ?_
      exact x_zret dX3_isSort_17 rfl (by first | rfl | decide | exact bI_nar _) (xRet_e (by rw [inR_in (by have := hB 0 2; have := hB 0 3; have := hB 0 4; omega) c1 c9]; rfl) rfl)
theorem Hall_isMender {K : xG} {h b : Nat} {G : xHp} {hl : Nat → Nat → Nat} {v : Int32} (hH : HallAt G b hl) : xCall K mX3_isMender 0 0 0 [.ref b, .int v] h G (xRet (some (.int (bI (inR v (hl 0 3))))) h G) := by
  refine x_entry (by decide) (ls := [(0, .ref b), (1, .int v)]) rfl (Nat.le_of_ble_eq_true rfl) ?_
  have hB := hH.2.2.2.2.2.2.2.2
  refine x_iload_n dX3_isMender_0 1 rfl ?_
  refine x_if_lt (tgt := 16) dX3_isMender_1 (by decide) (fun c1 => ?_) (fun c1 => ?_)
  · refine x_iconst dX3_isMender_16 ki_0 ?_
    exact x_zret dX3_isMender_17 rfl (by first | rfl | decide | exact bI_nar _) (xRet_e (by rw [inR_neg c1]; rfl) rfl)
  · refine x_iload_n dX3_isMender_4 1 rfl ?_
    refine x_aload_n dX3_isMender_5 0 rfl ?_
    refine x_get dX3_isMender_6 fX3_37 (hH.1) rfl ?_
    refine x_icmp_ge (x := v) (y := nI (hl 0 3)) (tgt := 16) dX3_isMender_9 (by decide) (fun c9 => ?_) (fun c9 => ?_)
    · refine x_iconst dX3_isMender_16 ki_0 ?_
      exact x_zret dX3_isMender_17 rfl (by first | rfl | decide | exact bI_nar _) (xRet_e (by rw [inR_ge (by have := hB 0 2; have := hB 0 3; have := hB 0 4; omega) c9]; rfl) rfl)
    · refine x_iconst dX3_isMender_12 ki_1 ?_
      refine x_goto (tgt := 17) dX3_isMender_13 (by decide) ?_
      exact x_zret dX3_isMender_17 rfl (by first | rfl | decide | exact bI_nar _) (xRet_e (by rw [inR_in (by have := hB 0 2; have := hB 0 3; have := hB 0 4; omega) c1 c9]; rfl) rfl)
theorem Hall_isThing {K : xG} {h b : Nat} {G : xHp} {hl : Nat → Nat → Nat} {v : Int32} (hH : HallAt G b hl) : xCall K mX3_isThing 0 0 0 [.ref b, .int v] h G (xRet (some (.int (bI (inR v (hl 0 4))))) h G) := by
  refine x_entry (by decide) (ls := [(0, .ref b), (1, .int v)]) rfl (Nat.le_of_ble_eq_true rfl) ?_
  have hB := hH.2.2.2.2.2.2.2.2
  refine x_iload_n dX3_isThing_0 1 rfl ?_
  refine x_if_lt (tgt := 16) dX3_isThing_1 (by decide) (fun c1 => ?_) (fun c1 => ?_)
  · refine x_iconst dX3_isThing_16 ki_0 ?_
    exact x_zret dX3_isThing_17 rfl (by first | rfl | decide | exact bI_nar _) (xRet_e (by rw [inR_neg c1]; rfl) rfl)
  · refine x_iload_n dX3_isThing_4 1 rfl ?_
    refine x_aload_n dX3_isThing_5 0 rfl ?_
    refine x_get dX3_isThing_6 fX3_40 (hH.1) rfl ?_
    refine x_icmp_ge (x := v) (y := nI (hl 0 4)) (tgt := 16) dX3_isThing_9 (by decide) (fun c9 => ?_) (fun c9 => ?_)
    · refine x_iconst dX3_isThing_16 ki_0 ?_
      exact x_zret dX3_isThing_17 rfl (by first | rfl | decide | exact bI_nar _) (xRet_e (by rw [inR_ge (by have := hB 0 2; have := hB 0 3; have := hB 0 4; omega) c9]; rfl) rfl)
    · refine x_iconst dX3_isThing_12 ki_1 ?_
      refine x_goto (tgt := 17) dX3_isThing_13 (by decide) ?_
      exact x_zret dX3_isThing_17 rfl (by first | rfl | decide | exact bI_nar _) (xRet_e (by rw [inR_in (by have := hB 0 2; have := hB 0 3; have := hB 0 4; omega) c1 c9]; rfl) rfl)
theorem Hall_skillOf {K : xG} {h b : Nat} {G : xHp} {hl : Nat → Nat → Nat} {q s : Nat} (hH : HallAt G b hl) (hq : q < 4) (hs : s < 4) : xCall K mX3_skillOf 0 0 0 [.ref b, .int (nI q), .int (nI s)] h G (xRet (some (.int (nI (hl 3 (q * 4 + s))))) h G) := by
  refine x_entry (by decide) (ls := [(0, .ref b), (1, .int (nI q)), (2, .int (nI s))]) rfl (Nat.le_of_ble_eq_true rfl) ?_
  refine x_iload_n dX3_skillOf_0 1 rfl ?_
  refine x_iconst dX3_skillOf_1 ki_4 ?_
  refine x_imulN dX3_skillOf_2 ?_
  refine x_iload_n dX3_skillOf_3 2 rfl ?_
  refine x_iaddN dX3_skillOf_4 ?_
  refine x_istore_n (ls' := [(3, .int (nI ((q * 4) + s))), (0, .ref b), (1, .int (nI q)), (2, .int (nI s))]) dX3_skillOf_5 (by decide) rfl ?_
  refine x_iload_n dX3_skillOf_6 0 rfl ?_
  refine x_ifN_lt (tgt := 28) dX3_skillOf_7 (by decide) (by omega) (fun c7 => ?_) (fun c7 => ?_)
  · exact absurd c7 id
  · refine x_iload_n dX3_skillOf_10 0 rfl ?_
    refine x_pc (pc' := 11) rfl ?_
    refine x_aload_n dX3_skillOf_11 1 rfl ?_
    refine x_get dX3_skillOf_12 fX3_18 (hH.1) rfl ?_
    refine x_alen dX3_skillOf_15 (by decide) (hH.2.2.2.1) ?_
    refine x_icmpN_ge (tgt := 28) dX3_skillOf_16 (by decide) (by omega) (by omega) (fun c16 => ?_) (fun c16 => ?_)
    · exact absurd c16 (by omega)
    · refine x_aload_n dX3_skillOf_19 1 rfl ?_
      refine x_get dX3_skillOf_20 fX3_18 (hH.1) rfl ?_
      refine x_iload_n dX3_skillOf_23 0 rfl ?_
      refine x_ialdN dX3_skillOf_24 (hH.2.2.2.1) (by omega) (by decide) ?_
      refine x_goto (tgt := 29) dX3_skillOf_25 (by decide) ?_
      exact x_iret dX3_skillOf_29 rfl (xRet_i)
theorem upd_nF (g : Nat → Nat) (j v : Nat) : upd (nF g) j (nI v) = nF (fun i => if i = j then v else g i) := by
  funext i
  by_cases h : i = j <;> simp [upd, nF, h]
theorem set2_lt {hl : xHl} {i j v : Nat} (h : ∀ i j, hl i j < 1000000) (hv : v < 1000000) : ∀ a b, set2 hl i j v a b < 1000000 := by
  intro a b
  unfold set2
  split
  · exact hv
  · exact h a b
theorem set2_at (hl : xHl) (i j v : Nat) : nF (set2 hl i j v i) = upd (nF (hl i)) j (nI v) := by
  funext b
  by_cases h : b = j <;> simp [set2, upd, nF, h]
theorem set2_off (hl : xHl) {i i' : Nat} (j v : Nat) (h : i' ≠ i) : set2 hl i j v i' = hl i' := by
  funext b
  simp [set2, h]
theorem HallAt.setA1 {G : xHp} {b : Nat} {hl : xHl} (h : HallAt G b hl) (j v : Nat) (hv : v < 1000000) : HallAt (xup G (b + 1) (eI 0 4 (upd (nF (hl 1)) j (nI v)))) b (set2 hl 1 j v) := by
  obtain ⟨h0, h1, h2, h3, h4, h5, h6, h7, h8⟩ := h
  exact ⟨by rw [xup_ne (by omega), h0]; simp [hallO, set2], by rw [xup_eq, set2_at], by rw [xup_ne (by omega), h2, set2_off hl j v (by decide)], by rw [xup_ne (by omega), h3, set2_off hl j v (by decide)], by rw [xup_ne (by omega), h4, set2_off hl j v (by decide)], by rw [xup_ne (by omega), h5, set2_off hl j v (by decide)], by rw [xup_ne (by omega), h6, set2_off hl j v (by decide)], by rw [xup_ne (by omega), h7, set2_off hl j v (by decide)], set2_lt h8 hv⟩
theorem HallAt.setA2 {G : xHp} {b : Nat} {hl : xHl} (h : HallAt G b hl) (j v : Nat) (hv : v < 1000000) : HallAt (xup G (b + 2) (eI 0 4 (upd (nF (hl 2)) j (nI v)))) b (set2 hl 2 j v) := by
  obtain ⟨h0, h1, h2, h3, h4, h5, h6, h7, h8⟩ := h
  exact ⟨by rw [xup_ne (by omega), h0]; simp [hallO, set2], by rw [xup_ne (by omega), h1, set2_off hl j v (by decide)], by rw [xup_eq, set2_at], by rw [xup_ne (by omega), h3, set2_off hl j v (by decide)], by rw [xup_ne (by omega), h4, set2_off hl j v (by decide)], by rw [xup_ne (by omega), h5, set2_off hl j v (by decide)], by rw [xup_ne (by omega), h6, set2_off hl j v (by decide)], by rw [xup_ne (by omega), h7, set2_off hl j v (by decide)], set2_lt h8 hv⟩
theorem HallAt.setA3 {G : xHp} {b : Nat} {hl : xHl} (h : HallAt G b hl) (j v : Nat) (hv : v < 1000000) : HallAt (xup G (b + 3) (eI 0 16 (upd (nF (hl 3)) j (nI v)))) b (set2 hl 3 j v) := by
  obtain ⟨h0, h1, h2, h3, h4, h5, h6, h7, h8⟩ := h
  exact ⟨by rw [xup_ne (by omega), h0]; simp [hallO, set2], by rw [xup_ne (by omega), h1, set2_off hl j v (by decide)], by rw [xup_ne (by omega), h2, set2_off hl j v (by decide)], by rw [xup_eq, set2_at], by rw [xup_ne (by omega), h4, set2_off hl j v (by decide)], by rw [xup_ne (by omega), h5, set2_off hl j v (by decide)], by rw [xup_ne (by omega), h6, set2_off hl j v (by decide)], by rw [xup_ne (by omega), h7, set2_off hl j v (by decide)], set2_lt h8 hv⟩
theorem HallAt.setA4 {G : xHp} {b : Nat} {hl : xHl} (h : HallAt G b hl) (j v : Nat) (hv : v < 1000000) : HallAt (xup G (b + 4) (eI 0 7 (upd (nF (hl 4)) j (nI v)))) b (set2 hl 4 j v) := by
  obtain ⟨h0, h1, h2, h3, h4, h5, h6, h7, h8⟩ := h
  exact ⟨by rw [xup_ne (by omega), h0]; simp [hallO, set2], by rw [xup_ne (by omega), h1, set2_off hl j v (by decide)], by rw [xup_ne (by omega), h2, set2_off hl j v (by decide)], by rw [xup_ne (by omega), h3, set2_off hl j v (by decide)], by rw [xup_eq, set2_at], by rw [xup_ne (by omega), h5, set2_off hl j v (by decide)], by rw [xup_ne (by omega), h6, set2_off hl j v (by decide)], by rw [xup_ne (by omega), h7, set2_off hl j v (by decide)], set2_lt h8 hv⟩
theorem HallAt.setA5 {G : xHp} {b : Nat} {hl : xHl} (h : HallAt G b hl) (j v : Nat) (hv : v < 1000000) : HallAt (xup G (b + 5) (eI 0 7 (upd (nF (hl 5)) j (nI v)))) b (set2 hl 5 j v) := by
  obtain ⟨h0, h1, h2, h3, h4, h5, h6, h7, h8⟩ := h
  exact ⟨by rw [xup_ne (by omega), h0]; simp [hallO, set2], by rw [xup_ne (by omega), h1, set2_off hl j v (by decide)], by rw [xup_ne (by omega), h2, set2_off hl j v (by decide)], by rw [xup_ne (by omega), h3, set2_off hl j v (by decide)], by rw [xup_ne (by omega), h4, set2_off hl j v (by decide)], by rw [xup_eq, set2_at], by rw [xup_ne (by omega), h6, set2_off hl j v (by decide)], by rw [xup_ne (by omega), h7, set2_off hl j v (by decide)], set2_lt h8 hv⟩
theorem HallAt.setA6 {G : xHp} {b : Nat} {hl : xHl} (h : HallAt G b hl) (j v : Nat) (hv : v < 1000000) : HallAt (xup G (b + 6) (eI 0 7 (upd (nF (hl 6)) j (nI v)))) b (set2 hl 6 j v) := by
  obtain ⟨h0, h1, h2, h3, h4, h5, h6, h7, h8⟩ := h
  exact ⟨by rw [xup_ne (by omega), h0]; simp [hallO, set2], by rw [xup_ne (by omega), h1, set2_off hl j v (by decide)], by rw [xup_ne (by omega), h2, set2_off hl j v (by decide)], by rw [xup_ne (by omega), h3, set2_off hl j v (by decide)], by rw [xup_ne (by omega), h4, set2_off hl j v (by decide)], by rw [xup_ne (by omega), h5, set2_off hl j v (by decide)], by rw [xup_eq, set2_at], by rw [xup_ne (by omega), h7, set2_off hl j v (by decide)], set2_lt h8 hv⟩
theorem HallAt.setA7 {G : xHp} {b : Nat} {hl : xHl} (h : HallAt G b hl) (j v : Nat) (hv : v < 1000000) : HallAt (xup G (b + 7) (eI 0 7 (upd (nF (hl 7)) j (nI v)))) b (set2 hl 7 j v) := by
  obtain ⟨h0, h1, h2, h3, h4, h5, h6, h7, h8⟩ := h
  exact ⟨by rw [xup_ne (by omega), h0]; simp [hallO, set2], by rw [xup_ne (by omega), h1, set2_off hl j v (by decide)], by rw [xup_ne (by omega), h2, set2_off hl j v (by decide)], by rw [xup_ne (by omega), h3, set2_off hl j v (by decide)], by rw [xup_ne (by omega), h4, set2_off hl j v (by decide)], by rw [xup_ne (by omega), h5, set2_off hl j v (by decide)], by rw [xup_ne (by omega), h6, set2_off hl j v (by decide)], by rw [xup_eq, set2_at], set2_lt h8 hv⟩
theorem HallAt.setI {G : xHp} {b : Nat} {hl : xHl} (h : HallAt G b hl) (j v : Nat) (hv : v < 1000000) : HallAt (xup G b (hallO b (set2 hl 0 j v))) b (set2 hl 0 j v) := by
  obtain ⟨h0, h1, h2, h3, h4, h5, h6, h7, h8⟩ := h
  exact ⟨xup_eq, by rw [xup_ne (by omega), h1, set2_off hl j v (by decide)], by rw [xup_ne (by omega), h2, set2_off hl j v (by decide)], by rw [xup_ne (by omega), h3, set2_off hl j v (by decide)], by rw [xup_ne (by omega), h4, set2_off hl j v (by decide)], by rw [xup_ne (by omega), h5, set2_off hl j v (by decide)], by rw [xup_ne (by omega), h6, set2_off hl j v (by decide)], by rw [xup_ne (by omega), h7, set2_off hl j v (by decide)], set2_lt h8 hv⟩
/-- the answer of a method that leaves a Hall behind -/
abbrev hallQ (G : xHp) (h b : Nat) (hl : xHl) : xPost := xEx (fun G' => HallAt G' b hl ∧ Fr G G' b 8) (fun _ => none) (fun _ => h) (fun G' => G')
theorem Hall_hasSkillFor_loop {K : xG} {h b : Nat} {G : xHp} {hl : Nat → Nat → Nat} {s : Nat} (hH : HallAt G b hl) (hs : s < 4) (hm : hl 0 3 ≤ 4) : ∀ (k q : Nat), q + k = hl 0 3 → (∀ j, j < q → ¬ 0 < hl 3 (j * 4 + s)) → xV K mX3_hasSkillFor 1 0 0 h G 2 [(2, .int (nI q)), (0, .ref b), (1, .int (nI s))] [] (xRet (some (.int (bI (decide (∃ q, q < hl 0 3 ∧ 0 < hl 3 (q * 4 + s)))))) h G) := by
  have hB := hH.2.2.2.2.2.2.2.2
  intro k
  induction k with
  | zero =>
    intro q hq hn
    refine x_iload_n dX3_hasSkillFor_2 0 rfl ?_
    refine x_aload_n dX3_hasSkillFor_3 1 rfl ?_
    refine x_get dX3_hasSkillFor_4 fX3_37 (hH.1) rfl ?_
    refine x_icmpN_ge (tgt := 27) dX3_hasSkillFor_7 (by decide) (by have := hB 0 2; have := hB 0 3; have := hB 0 4; omega) (by have := hB 0 2; have := hB 0 3; have := hB 0 4; omega) (fun c7 => ?_) (fun c7 => ?_)
    · refine x_iconst dX3_hasSkillFor_27 ki_0 ?_
      exact x_zret dX3_hasSkillFor_28 rfl (by first | rfl | decide | exact bI_nar _) (xRet_e (by rw [decide_eq_false (fun ⟨j, h1, h2⟩ => hn j (by omega) h2)]; rfl) rfl)
    · exact absurd c7 (by omega)
  | succ k ih =>
    intro q hq hn
    refine x_iload_n dX3_hasSkillFor_2 0 rfl ?_
    refine x_aload_n dX3_hasSkillFor_3 1 rfl ?_
    refine x_get dX3_hasSkillFor_4 fX3_37 (hH.1) rfl ?_
    refine x_icmpN_ge (tgt := 27) dX3_hasSkillFor_7 (by decide) (by have := hB 0 2; have := hB 0 3; have := hB 0 4; omega) (by have := hB 0 2; have := hB 0 3; have := hB 0 4; omega) (fun c7 => ?_) (fun c7 => ?_)
    · exact absurd c7 (by omega)
    · refine x_aload_n dX3_hasSkillFor_10 1 rfl ?_
      refine x_iload_n dX3_hasSkillFor_11 0 rfl ?_
      refine x_iload_n dX3_hasSkillFor_12 2 rfl ?_
      refine x_cV (N := mX3_skillOf) (d' := 0) (mc := 0) (ms := 0) (cb := 0) (sb := 0) (As := [.int (nI q), .int (nI s)]) (st := []) dX3_hasSkillFor_13 mX3_skillOf_v lX3_61 rfl rfl (hH.1) rfl (by decide) (Nat.le_of_ble_eq_true rfl) (Hall_skillOf hH (by omega) hs) rfl (st1 := [.int (nI (hl 3 (q * 4 + s)))]) rfl ?_
      refine x_ifN_le (tgt := 21) dX3_hasSkillFor_16 (by decide) (by have := hB 3 (q * 4 + s); omega) (fun c16 => ?_) (fun c16 => ?_)
      · refine x_pc (pc' := 21) rfl ?_
        refine x_iinc (v := nI (q + 1)) (ls' := [(2, .int (nI (q + 1))), (0, .ref b), (1, .int (nI s))]) dX3_hasSkillFor_21 0 rfl (nIs _) (by decide) rfl ?_
        refine x_goto (tgt := 2) dX3_hasSkillFor_24 (by decide) ?_
        exact ih (q + 1) (by omega) (fun j hj => by
          rcases Nat.lt_or_ge j q with h1 | h1
          · exact hn j h1
          · rw [show j = q by omega]; omega)
      · refine x_pc (pc' := 19) rfl ?_
        refine x_iconst dX3_hasSkillFor_19 ki_1 ?_
        exact x_zret dX3_hasSkillFor_20 rfl (by first | rfl | decide | exact bI_nar _) (xRet_e (by rw [decide_eq_true (p := ∃ q, q < hl 0 3 ∧ 0 < hl 3 (q * 4 + s)) ⟨q, by omega, c16⟩]; rfl) rfl)
theorem Hall_hasSkillFor {K : xG} {h b : Nat} {G : xHp} {hl : Nat → Nat → Nat} {s : Nat} (hH : HallAt G b hl) (hs : s < 4) (hm : hl 0 3 ≤ 4) : xCall K mX3_hasSkillFor 1 0 0 [.ref b, .int (nI s)] h G (xRet (some (.int (bI (decide (∃ q, q < hl 0 3 ∧ 0 < hl 3 (q * 4 + s)))))) h G) := by
  refine x_entry (by decide) (ls := [(0, .ref b), (1, .int (nI s))]) rfl (Nat.le_of_ble_eq_true rfl) ?_
  refine x_iconst dX3_hasSkillFor_0 ki_0 ?_
  refine x_istore_n (ls' := [(2, .int (nI 0)), (0, .ref b), (1, .int (nI s))]) dX3_hasSkillFor_1 (by decide) rfl ?_
  exact Hall_hasSkillFor_loop hH hs hm (hl 0 3) 0 (by omega) (fun j hj => absurd hj (by omega))
theorem Hall_addSort {K : xG} {h b : Nat} {G : xHp} {hl : Nat → Nat → Nat} {l q : Nat} (hH : HallAt G b hl) (hs : hl 0 2 < 4) (h1 : l < 100000) (h2 : q < 100000) : xCall K mX3_addSort 0 0 0 [.ref b, .int (nI l), .int (nI q)] h G (hallQ G h b (set2 (set2 (set2 hl 1 (hl 0 2) l) 2 (hl 0 2) q) 0 2 (hl 0 2 + 1))) := by
  refine x_entry (by decide) (ls := [(0, .ref b), (1, .int (nI l)), (2, .int (nI q))]) rfl (Nat.le_of_ble_eq_true rfl) ?_
  have hB := hH.2.2.2.2.2.2.2.2
  refine x_aload_n dX3_addSort_0 0 rfl ?_
  refine x_get dX3_addSort_1 fX3_33 (hH.1) rfl ?_
  refine x_iconst dX3_addSort_4 ki_4 ?_
  refine x_icmpN_ge (tgt := 38) dX3_addSort_5 (by decide) (by have := hB 0 2; have := hB 0 3; have := hB 0 4; omega) (by have := hB 0 2; have := hB 0 3; have := hB 0 4; omega) (fun c5 => ?_) (fun c5 => ?_)
  · exact absurd c5 (by omega)
  · refine x_aload_n dX3_addSort_8 0 rfl ?_
    refine x_get dX3_addSort_9 fX3_9 (hH.1) rfl ?_
    refine x_aload_n dX3_addSort_12 0 rfl ?_
    refine x_get dX3_addSort_13 fX3_33 (hH.1) rfl ?_
    refine x_iload_n dX3_addSort_16 1 rfl ?_
    refine x_pc (pc' := 17) rfl ?_
    refine x_iastN dX3_addSort_17 (hH.2.1) (by omega) (by decide) ?_
    refine x_aload_n dX3_addSort_18 0 rfl ?_
    refine x_get dX3_addSort_19 fX3_15 (xup_of (by omega) (hH.1)) rfl ?_
    refine x_aload_n dX3_addSort_22 0 rfl ?_
    refine x_get dX3_addSort_23 fX3_33 (xup_of (by omega) (hH.1)) rfl ?_
    refine x_iload_n dX3_addSort_26 2 rfl ?_
    refine x_iastN dX3_addSort_27 (xup_of (by omega) (hH.2.2.1)) (by omega) (by decide) ?_
    refine x_aload_n dX3_addSort_28 0 rfl ?_
    refine x_dup dX3_addSort_29 rfl ?_
    refine x_get dX3_addSort_30 fX3_33 (xup_of (by omega) (xup_of (by omega) (hH.1))) rfl ?_
    refine x_pc (pc' := 33) rfl ?_
    refine x_iconst dX3_addSort_33 ki_1 ?_
    refine x_iaddN dX3_addSort_34 ?_
    refine x_put (fs' := [.int (nI (hl 0 0)), .int (nI (hl 0 1)), .int (nI ((hl 0 2) + 1)), .int (nI (hl 0 3)), .int (nI (hl 0 4)), .ref (b + 1), .ref (b + 2), .ref (b + 3), .ref (b + 4), .ref (b + 5), .ref (b + 6), .ref (b + 7)]) dX3_addSort_35 fX3_33 (xup_of (by omega) (xup_of (by omega) (hH.1))) (Nat.le_of_ble_eq_true rfl) rfl rfl rfl ?_
    exact x_vret dX3_addSort_38 rfl (xEx_i _ ⟨((hH.setA1 (hl 0 2) l (by omega)).setA2 (hl 0 2) q (by omega)).setI 2 (hl 0 2 + 1) (by omega), ((Fr.up (by omega) (by omega)).up1 (by omega) (by omega)).up1 (by omega) (by omega)⟩ rfl rfl rfl)
theorem Hall_addMender {K : xG} {h b : Nat} {G : xHp} {hl : Nat → Nat → Nat} (hH : HallAt G b hl) (hs : hl 0 3 < 4) : xCall K mX3_addMender 0 0 0 [.ref b] h G (hallQ G h b (set2 hl 0 3 (hl 0 3 + 1))) := by
  refine x_entry (by decide) (ls := [(0, .ref b)]) rfl (Nat.le_of_ble_eq_true rfl) ?_
  have hB := hH.2.2.2.2.2.2.2.2
  refine x_aload_n dX3_addMender_0 0 rfl ?_
  refine x_get dX3_addMender_1 fX3_37 (hH.1) rfl ?_
  refine x_iconst dX3_addMender_4 ki_4 ?_
  refine x_icmpN_ge (tgt := 18) dX3_addMender_5 (by decide) (by have := hB 0 2; have := hB 0 3; have := hB 0 4; omega) (by have := hB 0 2; have := hB 0 3; have := hB 0 4; omega) (fun c5 => ?_) (fun c5 => ?_)
  · exact absurd c5 (by omega)
  · refine x_aload_n dX3_addMender_8 0 rfl ?_
    refine x_dup dX3_addMender_9 rfl ?_
    refine x_get dX3_addMender_10 fX3_37 (hH.1) rfl ?_
    refine x_iconst dX3_addMender_13 ki_1 ?_
    refine x_iaddN dX3_addMender_14 ?_
    refine x_pc (pc' := 15) rfl ?_
    refine x_put (fs' := [.int (nI (hl 0 0)), .int (nI (hl 0 1)), .int (nI (hl 0 2)), .int (nI ((hl 0 3) + 1)), .int (nI (hl 0 4)), .ref (b + 1), .ref (b + 2), .ref (b + 3), .ref (b + 4), .ref (b + 5), .ref (b + 6), .ref (b + 7)]) dX3_addMender_15 fX3_37 (hH.1) (Nat.le_of_ble_eq_true rfl) rfl rfl rfl ?_
    exact x_vret dX3_addMender_18 rfl (xEx_i _ ⟨hH.setI 3 (hl 0 3 + 1) (by omega), Fr.up (by omega) (by omega)⟩ rfl rfl rfl)
theorem Hall_setSkill {K : xG} {h b : Nat} {G : xHp} {hl : Nat → Nat → Nat} {q s v : Nat} (hH : HallAt G b hl) (hq : q < hl 0 3) (hs : s < hl 0 2) (h3 : hl 0 3 ≤ 4) (h4 : hl 0 2 ≤ 4) (h5 : v < 100000) : xCall K mX3_setSkill 1 0 0 [.ref b, .int (nI q), .int (nI s), .int (nI v)] h G (hallQ G h b (set2 hl 3 (q * 4 + s) v)) := by
  refine x_entry (by decide) (ls := [(0, .ref b), (1, .int (nI q)), (2, .int (nI s)), (3, .int (nI v))]) rfl (Nat.le_of_ble_eq_true rfl) ?_
  have hB := hH.2.2.2.2.2.2.2.2
  refine x_aload_n dX3_setSkill_0 0 rfl ?_
  refine x_iload_n dX3_setSkill_1 1 rfl ?_
  refine x_cV (N := mX3_isMender) (d' := 0) (mc := 0) (ms := 0) (cb := 0) (sb := 0) (As := [.int (nI q)]) (st := []) dX3_setSkill_2 mX3_isMender_v lX3_65 rfl rfl (hH.1) rfl (by decide) (Nat.le_of_ble_eq_true rfl) (Hall_isMender hH) rfl (st1 := [.int (bI (inR (nI q) (hl 0 3)))]) rfl ?_
  refine x_ifB_eq (tgt := 27) dX3_setSkill_5 (by decide) (fun c5 => ?_) (fun c5 => ?_)
  · rw [inR_nI (by omega)] at c5
    exact absurd c5 (by simp; omega)
  · refine x_aload_n dX3_setSkill_8 0 rfl ?_
    refine x_iload_n dX3_setSkill_9 2 rfl ?_
    refine x_cV (N := mX3_isSort) (d' := 0) (mc := 0) (ms := 0) (cb := 0) (sb := 0) (As := [.int (nI s)]) (st := []) dX3_setSkill_10 mX3_isSort_v lX3_69 rfl rfl (hH.1) rfl (by decide) (Nat.le_of_ble_eq_true rfl) (Hall_isSort hH) rfl (st1 := [.int (bI (inR (nI s) (hl 0 2)))]) rfl ?_
    refine x_ifB_eq (tgt := 27) dX3_setSkill_13 (by decide) (fun c13 => ?_) (fun c13 => ?_)
    · rw [inR_nI (by omega)] at c13
      exact absurd c13 (by simp; omega)
    · refine x_aload_n dX3_setSkill_16 0 rfl ?_
      refine x_pc (pc' := 17) rfl ?_
      refine x_get dX3_setSkill_17 fX3_18 (hH.1) rfl ?_
      refine x_iload_n dX3_setSkill_20 1 rfl ?_
      refine x_iconst dX3_setSkill_21 ki_4 ?_
      refine x_imulN dX3_setSkill_22 ?_
      refine x_iload_n dX3_setSkill_23 2 rfl ?_
      refine x_iaddN dX3_setSkill_24 ?_
      refine x_iload_n dX3_setSkill_25 3 rfl ?_
      refine x_iastN dX3_setSkill_26 (hH.2.2.2.1) (by omega) (by decide) ?_
      exact x_vret dX3_setSkill_27 rfl (xEx_i _ ⟨hH.setA3 (q * 4 + s) v (by omega), Fr.up (by omega) (by omega)⟩ rfl rfl rfl)
theorem Hall_addThing {K : xG} {h b : Nat} {G : xHp} {hl : Nat → Nat → Nat} {s c w n : Nat} (hH : HallAt G b hl) (hs : hl 0 4 < 7) (h1 : s < 100000) (h2 : c < 100000) (h3 : w < 100000) (h4 : n < 100000) : xCall K mX3_addThing 0 0 0 [.ref b, .int (nI s), .int (nI c), .int (nI w), .int (nI n)] h G (hallQ G h b (set2 (set2 (set2 (set2 (set2 hl 4 (hl 0 4) s) 5 (hl 0 4) c) 6 (hl 0 4) w) 7 (hl 0 4) n) 0 4 (hl 0 4 + 1))) := by
  refine x_entry (by decide) (ls := [(0, .ref b), (1, .int (nI s)), (2, .int (nI c)), (3, .int (nI w)), (4, .int (nI n))]) rfl (Nat.le_of_ble_eq_true rfl) ?_
  have hB := hH.2.2.2.2.2.2.2.2
  refine x_aload_n dX3_addThing_0 0 rfl ?_
  refine x_get dX3_addThing_1 fX3_40 (hH.1) rfl ?_
  refine x_bipush dX3_addThing_4 kb_7 ?_
  refine x_icmpN_ge (tgt := 60) dX3_addThing_6 (by decide) (by have := hB 0 2; have := hB 0 3; have := hB 0 4; omega) (by have := hB 0 2; have := hB 0 3; have := hB 0 4; omega) (fun c6 => ?_) (fun c6 => ?_)
  · exact absurd c6 (by omega)
  · refine x_aload_n dX3_addThing_9 0 rfl ?_
    refine x_get dX3_addThing_10 fX3_21 (hH.1) rfl ?_
    refine x_aload_n dX3_addThing_13 0 rfl ?_
    refine x_get dX3_addThing_14 fX3_40 (hH.1) rfl ?_
    refine x_iload_n dX3_addThing_17 1 rfl ?_
    refine x_pc (pc' := 18) rfl ?_
    refine x_iastN dX3_addThing_18 (hH.2.2.2.2.1) (by omega) (by decide) ?_
    refine x_aload_n dX3_addThing_19 0 rfl ?_
    refine x_get dX3_addThing_20 fX3_24 (xup_of (by omega) (hH.1)) rfl ?_
    refine x_aload_n dX3_addThing_23 0 rfl ?_
    refine x_get dX3_addThing_24 fX3_40 (xup_of (by omega) (hH.1)) rfl ?_
    refine x_iload_n dX3_addThing_27 2 rfl ?_
    refine x_iastN dX3_addThing_28 (xup_of (by omega) (hH.2.2.2.2.2.1)) (by omega) (by decide) ?_
    refine x_aload_n dX3_addThing_29 0 rfl ?_
    refine x_get dX3_addThing_30 fX3_27 (xup_of (by omega) (xup_of (by omega) (hH.1))) rfl ?_
    refine x_aload_n dX3_addThing_33 0 rfl ?_
    refine x_pc (pc' := 34) rfl ?_
    refine x_get dX3_addThing_34 fX3_40 (xup_of (by omega) (xup_of (by omega) (hH.1))) rfl ?_
    refine x_iload_n dX3_addThing_37 3 rfl ?_
    refine x_iastN dX3_addThing_38 (xup_of (by omega) (xup_of (by omega) (hH.2.2.2.2.2.2.1))) (by omega) (by decide) ?_
    refine x_aload_n dX3_addThing_39 0 rfl ?_
    refine x_get dX3_addThing_40 fX3_30 (xup_of (by omega) (xup_of (by omega) (xup_of (by omega) (hH.1)))) rfl ?_
    refine x_aload_n dX3_addThing_43 0 rfl ?_
    refine x_get dX3_addThing_44 fX3_40 (xup_of (by omega) (xup_of (by omega) (xup_of (by omega) (hH.1)))) rfl ?_
    refine x_iload dX3_addThing_47 4 rfl ?_
    refine x_iastN dX3_addThing_49 (xup_of (by omega) (xup_of (by omega) (xup_of (by omega) (hH.2.2.2.2.2.2.2.1)))) (by omega) (by decide) ?_
    refine x_aload_n dX3_addThing_50 0 rfl ?_
    refine x_pc (pc' := 51) rfl ?_
    refine x_dup dX3_addThing_51 rfl ?_
    refine x_get dX3_addThing_52 fX3_40 (xup_of (by omega) (xup_of (by omega) (xup_of (by omega) (xup_of (by omega) (hH.1))))) rfl ?_
    refine x_iconst dX3_addThing_55 ki_1 ?_
    refine x_iaddN dX3_addThing_56 ?_
    refine x_put (fs' := [.int (nI (hl 0 0)), .int (nI (hl 0 1)), .int (nI (hl 0 2)), .int (nI (hl 0 3)), .int (nI ((hl 0 4) + 1)), .ref (b + 1), .ref (b + 2), .ref (b + 3), .ref (b + 4), .ref (b + 5), .ref (b + 6), .ref (b + 7)]) dX3_addThing_57 fX3_40 (xup_of (by omega) (xup_of (by omega) (xup_of (by omega) (xup_of (by omega) (hH.1))))) (Nat.le_of_ble_eq_true rfl) rfl rfl rfl ?_
    exact x_vret dX3_addThing_60 rfl (xEx_i _ ⟨((((hH.setA4 (hl 0 4) s (by omega)).setA5 (hl 0 4) c (by omega)).setA6 (hl 0 4) w (by omega)).setA7 (hl 0 4) n (by omega)).setI 4 (hl 0 4 + 1) (by omega), ((((Fr.up (by omega) (by omega)).up1 (by omega) (by omega)).up1 (by omega) (by omega)).up1 (by omega) (by omega)).up1 (by omega) (by omega)⟩ rfl rfl rfl)
theorem Hall_copy {K : xG} {h b : Nat} {G : xHp} {hl : Nat → Nat → Nat} {c : Nat} {hk : xHl} (hH : HallAt G b hl) (hC : HallAt G c hk) (hne : c + 8 ≤ b ∨ b + 8 ≤ c) : xCall K mX3_copy 1 0 0 [.ref b, .ref c] h G (hallQ G h b hk) := by
  refine x_entry (by decide) (ls := [(0, .ref b), (1, .ref c)]) rfl (Nat.le_of_ble_eq_true rfl) ?_
  refine x_aload_n dX3_copy_0 0 rfl ?_
  refine x_aload_n dX3_copy_1 1 rfl ?_
  refine x_get dX3_copy_2 fX3_49 (hC.1) rfl ?_
  refine x_put (fs' := [.int (nI (hk 0 0)), .int (nI (hl 0 1)), .int (nI (hl 0 2)), .int (nI (hl 0 3)), .int (nI (hl 0 4)), .ref (b + 1), .ref (b + 2), .ref (b + 3), .ref (b + 4), .ref (b + 5), .ref (b + 6), .ref (b + 7)]) dX3_copy_5 fX3_49 (hH.1) (Nat.le_of_ble_eq_true rfl) rfl rfl rfl ?_
  refine x_aload_n dX3_copy_8 0 rfl ?_
  refine x_aload_n dX3_copy_9 1 rfl ?_
  refine x_get dX3_copy_10 fX3_52 (xup_of (by omega) (hC.1)) rfl ?_
  refine x_put (fs' := [.int (nI (hk 0 0)), .int (nI (hk 0 1)), .int (nI (hl 0 2)), .int (nI (hl 0 3)), .int (nI (hl 0 4)), .ref (b + 1), .ref (b + 2), .ref (b + 3), .ref (b + 4), .ref (b + 5), .ref (b + 6), .ref (b + 7)]) dX3_copy_13 fX3_52 (xup_eq) (Nat.le_of_ble_eq_true rfl) rfl rfl rfl ?_
  refine x_geq xup_up ?_
  refine x_aload_n dX3_copy_16 0 rfl ?_
  refine x_pc (pc' := 17) rfl ?_
  refine x_aload_n dX3_copy_17 1 rfl ?_
  refine x_get dX3_copy_18 fX3_33 (xup_of (by omega) (hC.1)) rfl ?_
  refine x_put (fs' := [.int (nI (hk 0 0)), .int (nI (hk 0 1)), .int (nI (hk 0 2)), .int (nI (hl 0 3)), .int (nI (hl 0 4)), .ref (b + 1), .ref (b + 2), .ref (b + 3), .ref (b + 4), .ref (b + 5), .ref (b + 6), .ref (b + 7)]) dX3_copy_21 fX3_33 (xup_eq) (Nat.le_of_ble_eq_true rfl) rfl rfl rfl ?_
  refine x_geq xup_up ?_
  refine x_aload_n dX3_copy_24 0 rfl ?_
  refine x_aload_n dX3_copy_25 1 rfl ?_
  refine x_get dX3_copy_26 fX3_37 (xup_of (by omega) (hC.1)) rfl ?_
  refine x_put (fs' := [.int (nI (hk 0 0)), .int (nI (hk 0 1)), .int (nI (hk 0 2)), .int (nI (hk 0 3)), .int (nI (hl 0 4)), .ref (b + 1), .ref (b + 2), .ref (b + 3), .ref (b + 4), .ref (b + 5), .ref (b + 6), .ref (b + 7)]) dX3_copy_29 fX3_37 (xup_eq) (Nat.le_of_ble_eq_true rfl) rfl rfl rfl ?_
  refine x_geq xup_up ?_
  refine x_aload_n dX3_copy_32 0 rfl ?_
  refine x_aload_n dX3_copy_33 1 rfl ?_
  refine x_get dX3_copy_34 fX3_40 (xup_of (by omega) (hC.1)) rfl ?_
  refine x_pc (pc' := 37) rfl ?_
  refine x_put (fs' := [.int (nI (hk 0 0)), .int (nI (hk 0 1)), .int (nI (hk 0 2)), .int (nI (hk 0 3)), .int (nI (hk 0 4)), .ref (b + 1), .ref (b + 2), .ref (b + 3), .ref (b + 4), .ref (b + 5), .ref (b + 6), .ref (b + 7)]) dX3_copy_37 fX3_40 (xup_eq) (Nat.le_of_ble_eq_true rfl) rfl rfl rfl ?_
  refine x_geq xup_up ?_
  refine x_aload_n dX3_copy_40 1 rfl ?_
  refine x_get dX3_copy_41 fX3_9 (xup_of (by omega) (hC.1)) rfl ?_
  refine x_iconst dX3_copy_44 ki_0 ?_
  refine x_aload_n dX3_copy_45 0 rfl ?_
  refine x_get dX3_copy_46 fX3_9 (xup_eq) rfl ?_
  refine x_iconst dX3_copy_49 ki_0 ?_
  refine x_iconst dX3_copy_50 ki_4 ?_
  refine x_copyF dX3_copy_51 lX3_55 (xup_of (by omega) (hC.2.1)) (xup_of (by omega) (hH.2.1)) (by decide) xw_nat xw_nst xw_sys (by decide) (Nat.le_of_ble_eq_true rfl) ?_
  refine x_aload_n dX3_copy_54 1 rfl ?_
  refine x_pc (pc' := 55) rfl ?_
  refine x_get dX3_copy_55 fX3_15 (xup_of (by omega) (xup_of (by omega) (hC.1))) rfl ?_
  refine x_iconst dX3_copy_58 ki_0 ?_
  refine x_aload_n dX3_copy_59 0 rfl ?_
  refine x_get dX3_copy_60 fX3_15 (xup_of (by omega) (xup_eq)) rfl ?_
  refine x_iconst dX3_copy_63 ki_0 ?_
  refine x_iconst dX3_copy_64 ki_4 ?_
  refine x_copyF dX3_copy_65 lX3_55 (xup_of (by omega) (xup_of (by omega) (hC.2.2.1))) (xup_of (by omega) (xup_of (by omega) (hH.2.2.1))) (by decide) xw_nat xw_nst xw_sys (by decide) (Nat.le_of_ble_eq_true rfl) ?_
  refine x_aload_n dX3_copy_68 1 rfl ?_
  refine x_get dX3_copy_69 fX3_18 (xup_of (by omega) (xup_of (by omega) (xup_of (by omega) (hC.1)))) rfl ?_
  refine x_iconst dX3_copy_72 ki_0 ?_
  refine x_pc (pc' := 73) rfl ?_
  refine x_aload_n dX3_copy_73 0 rfl ?_
  refine x_get dX3_copy_74 fX3_18 (xup_of (by omega) (xup_of (by omega) (xup_eq))) rfl ?_
  refine x_iconst dX3_copy_77 ki_0 ?_
  refine x_bipush dX3_copy_78 kb_16 ?_
  refine x_copyF dX3_copy_80 lX3_55 (xup_of (by omega) (xup_of (by omega) (xup_of (by omega) (hC.2.2.2.1)))) (xup_of (by omega) (xup_of (by omega) (xup_of (by omega) (hH.2.2.2.1)))) (by decide) xw_nat xw_nst xw_sys (by decide) (Nat.le_of_ble_eq_true rfl) ?_
  refine x_aload_n dX3_copy_83 1 rfl ?_
  refine x_get dX3_copy_84 fX3_21 (xup_of (by omega) (xup_of (by omega) (xup_of (by omega) (xup_of (by omega) (hC.1))))) rfl ?_
  refine x_iconst dX3_copy_87 ki_0 ?_
  refine x_aload_n dX3_copy_88 0 rfl ?_
  refine x_get dX3_copy_89 fX3_21 (xup_of (by omega) (xup_of (by omega) (xup_of (by omega) (xup_eq)))) rfl ?_
  refine x_pc (pc' := 92) rfl ?_
  refine x_iconst dX3_copy_92 ki_0 ?_
  refine x_bipush dX3_copy_93 kb_7 ?_
  refine x_copyF dX3_copy_95 lX3_55 (xup_of (by omega) (xup_of (by omega) (xup_of (by omega) (xup_of (by omega) (hC.2.2.2.2.1))))) (xup_of (by omega) (xup_of (by omega) (xup_of (by omega) (xup_of (by omega) (hH.2.2.2.2.1))))) (by decide) xw_nat xw_nst xw_sys (by decide) (Nat.le_of_ble_eq_true rfl) ?_
  refine x_aload_n dX3_copy_98 1 rfl ?_
  refine x_get dX3_copy_99 fX3_24 (xup_of (by omega) (xup_of (by omega) (xup_of (by omega) (xup_of (by omega) (xup_of (by omega) (hC.1)))))) rfl ?_
  refine x_iconst dX3_copy_102 ki_0 ?_
  refine x_aload_n dX3_copy_103 0 rfl ?_
  refine x_get dX3_copy_104 fX3_24 (xup_of (by omega) (xup_of (by omega) (xup_of (by omega) (xup_of (by omega) (xup_eq))))) rfl ?_
  refine x_iconst dX3_copy_107 ki_0 ?_
  refine x_bipush dX3_copy_108 kb_7 ?_
  refine x_pc (pc' := 110) rfl ?_
  refine x_copyF dX3_copy_110 lX3_55 (xup_of (by omega) (xup_of (by omega) (xup_of (by omega) (xup_of (by omega) (xup_of (by omega) (hC.2.2.2.2.2.1)))))) (xup_of (by omega) (xup_of (by omega) (xup_of (by omega) (xup_of (by omega) (xup_of (by omega) (hH.2.2.2.2.2.1)))))) (by decide) xw_nat xw_nst xw_sys (by decide) (Nat.le_of_ble_eq_true rfl) ?_
  refine x_aload_n dX3_copy_113 1 rfl ?_
  refine x_get dX3_copy_114 fX3_27 (xup_of (by omega) (xup_of (by omega) (xup_of (by omega) (xup_of (by omega) (xup_of (by omega) (xup_of (by omega) (hC.1))))))) rfl ?_
  refine x_iconst dX3_copy_117 ki_0 ?_
  refine x_aload_n dX3_copy_118 0 rfl ?_
  refine x_get dX3_copy_119 fX3_27 (xup_of (by omega) (xup_of (by omega) (xup_of (by omega) (xup_of (by omega) (xup_of (by omega) (xup_eq)))))) rfl ?_
  refine x_iconst dX3_copy_122 ki_0 ?_
  refine x_bipush dX3_copy_123 kb_7 ?_
  refine x_copyF dX3_copy_125 lX3_55 (xup_of (by omega) (xup_of (by omega) (xup_of (by omega) (xup_of (by omega) (xup_of (by omega) (xup_of (by omega) (hC.2.2.2.2.2.2.1))))))) (xup_of (by omega) (xup_of (by omega) (xup_of (by omega) (xup_of (by omega) (xup_of (by omega) (xup_of (by omega) (hH.2.2.2.2.2.2.1))))))) (by decide) xw_nat xw_nst xw_sys (by decide) (Nat.le_of_ble_eq_true rfl) ?_
  refine x_aload_n dX3_copy_128 1 rfl ?_
  refine x_pc (pc' := 129) rfl ?_
  refine x_get dX3_copy_129 fX3_30 (xup_of (by omega) (xup_of (by omega) (xup_of (by omega) (xup_of (by omega) (xup_of (by omega) (xup_of (by omega) (xup_of (by omega) (hC.1)))))))) rfl ?_
  refine x_iconst dX3_copy_132 ki_0 ?_
  refine x_aload_n dX3_copy_133 0 rfl ?_
  refine x_get dX3_copy_134 fX3_30 (xup_of (by omega) (xup_of (by omega) (xup_of (by omega) (xup_of (by omega) (xup_of (by omega) (xup_of (by omega) (xup_eq))))))) rfl ?_
  refine x_iconst dX3_copy_137 ki_0 ?_
  refine x_bipush dX3_copy_138 kb_7 ?_
  refine x_copyF dX3_copy_140 lX3_55 (xup_of (by omega) (xup_of (by omega) (xup_of (by omega) (xup_of (by omega) (xup_of (by omega) (xup_of (by omega) (xup_of (by omega) (hC.2.2.2.2.2.2.2.1)))))))) (xup_of (by omega) (xup_of (by omega) (xup_of (by omega) (xup_of (by omega) (xup_of (by omega) (xup_of (by omega) (xup_of (by omega) (hH.2.2.2.2.2.2.2.1)))))))) (by decide) xw_nat xw_nst xw_sys (by decide) (Nat.le_of_ble_eq_true rfl) ?_
  exact x_vret dX3_copy_143 rfl (xEx_i (xup (xup (xup (xup (xup (xup (xup (xup G b (eO 3 [.int (nI (hk 0 0)), .int (nI (hk 0 1)), .int (nI (hk 0 2)), .int (nI (hk 0 3)), .int (nI (hk 0 4)), .ref (b + 1), .ref (b + 2), .ref (b + 3), .ref (b + 4), .ref (b + 5), .ref (b + 6), .ref (b + 7)])) (b + 1) (eI 0 4 (nF (hk 1)))) (b + 2) (eI 0 4 (nF (hk 2)))) (b + 3) (eI 0 16 (nF (hk 3)))) (b + 4) (eI 0 7 (nF (hk 4)))) (b + 5) (eI 0 7 (nF (hk 5)))) (b + 6) (eI 0 7 (nF (hk 6)))) (b + 7) (eI 0 7 (nF (hk 7)))) ⟨⟨xup_of (by omega) (xup_of (by omega) (xup_of (by omega) (xup_of (by omega) (xup_of (by omega) (xup_of (by omega) (xup_of (by omega) (xup_eq))))))), xup_of (by omega) (xup_of (by omega) (xup_of (by omega) (xup_of (by omega) (xup_of (by omega) (xup_of (by omega) (xup_eq)))))), xup_of (by omega) (xup_of (by omega) (xup_of (by omega) (xup_of (by omega) (xup_of (by omega) (xup_eq))))), xup_of (by omega) (xup_of (by omega) (xup_of (by omega) (xup_of (by omega) (xup_eq)))), xup_of (by omega) (xup_of (by omega) (xup_of (by omega) (xup_eq))), xup_of (by omega) (xup_of (by omega) (xup_eq)), xup_of (by omega) (xup_eq), xup_eq, hC.2.2.2.2.2.2.2.2⟩, ((((((((Fr.rf).up1 (by omega) (by omega)).up1 (by omega) (by omega)).up1 (by omega) (by omega)).up1 (by omega) (by omega)).up1 (by omega) (by omega)).up1 (by omega) (by omega)).up1 (by omega) (by omega)).up1 (by omega) (by omega)⟩ rfl rfl rfl)
def hlClr (hl : xHl) : xHl := fun i j => if i = 0 ∧ (j = 2 ∨ j = 3 ∨ j = 4) then 0 else if i = 3 then 0 else hl i j
theorem hlClr_lt {hl : xHl} (h : ∀ i j, hl i j < 1000000) : ∀ i j, hlClr hl i j < 1000000 := by
  intro i j
  unfold hlClr
  split
  · omega
  · split
    · omega
    · exact h i j
theorem hlClr_off (hl : xHl) {i : Nat} (h0 : i ≠ 0) (h3 : i ≠ 3) : hlClr hl i = hl i := by funext j; simp [hlClr, h0, h3]
theorem Hall_clear {K : xG} {h b : Nat} {G : xHp} {hl : Nat → Nat → Nat} (hH : HallAt G b hl) : xCall K mX3_clear 1 0 0 [.ref b] h G (hallQ G h b (hlClr hl)) := by
  refine x_entry (by decide) (ls := [(0, .ref b)]) rfl (Nat.le_of_ble_eq_true rfl) ?_
  refine x_aload_n dX3_clear_0 0 rfl ?_
  refine x_iconst dX3_clear_1 ki_0 ?_
  refine x_put (fs' := [.int (nI (hl 0 0)), .int (nI (hl 0 1)), .int (nI 0), .int (nI (hl 0 3)), .int (nI (hl 0 4)), .ref (b + 1), .ref (b + 2), .ref (b + 3), .ref (b + 4), .ref (b + 5), .ref (b + 6), .ref (b + 7)]) dX3_clear_2 fX3_33 (hH.1) (Nat.le_of_ble_eq_true rfl) rfl rfl rfl ?_
  refine x_aload_n dX3_clear_5 0 rfl ?_
  refine x_iconst dX3_clear_6 ki_0 ?_
  refine x_put (fs' := [.int (nI (hl 0 0)), .int (nI (hl 0 1)), .int (nI 0), .int (nI 0), .int (nI (hl 0 4)), .ref (b + 1), .ref (b + 2), .ref (b + 3), .ref (b + 4), .ref (b + 5), .ref (b + 6), .ref (b + 7)]) dX3_clear_7 fX3_37 (xup_eq) (Nat.le_of_ble_eq_true rfl) rfl rfl rfl ?_
  refine x_geq xup_up ?_
  refine x_aload_n dX3_clear_10 0 rfl ?_
  refine x_iconst dX3_clear_11 ki_0 ?_
  refine x_put (fs' := [.int (nI (hl 0 0)), .int (nI (hl 0 1)), .int (nI 0), .int (nI 0), .int (nI 0), .ref (b + 1), .ref (b + 2), .ref (b + 3), .ref (b + 4), .ref (b + 5), .ref (b + 6), .ref (b + 7)]) dX3_clear_12 fX3_40 (xup_eq) (Nat.le_of_ble_eq_true rfl) rfl rfl rfl ?_
  refine x_geq xup_up ?_
  refine x_pc (pc' := 15) rfl ?_
  refine x_aload_n dX3_clear_15 0 rfl ?_
  refine x_get dX3_clear_16 fX3_18 (xup_eq) rfl ?_
  refine x_iconst dX3_clear_19 ki_0 ?_
  refine x_cS (N := mJ7_fill_53178) (d' := 0) (mc := 0) (ms := 0) (cb := 0) (sb := 0) (As := [.ref (b + 3), .int (nI 0)]) (st := []) dX3_clear_20 mJ7_fill_53178_s lX3_43 rfl (by decide) (Nat.le_of_ble_eq_true rfl) (Arr_fill (by decide) (xup_of (by omega) (hH.2.2.2.1))) rfl (st1 := []) rfl ?_
  exact x_vret dX3_clear_23 rfl (xEx_i (xup (xup G b (eO 3 [.int (nI (hl 0 0)), .int (nI (hl 0 1)), .int (nI 0), .int (nI 0), .int (nI 0), .ref (b + 1), .ref (b + 2), .ref (b + 3), .ref (b + 4), .ref (b + 5), .ref (b + 6), .ref (b + 7)])) (b + 3) (eI 0 16 (fun _ => nI 0))) ⟨⟨xup_of (by omega) (xup_eq), by rw [hlClr_off hl (i := 1) (by decide) (by decide)]; exact xup_of (by omega) (xup_of (by omega) (hH.2.1)), by rw [hlClr_off hl (i := 2) (by decide) (by decide)]; exact xup_of (by omega) (xup_of (by omega) (hH.2.2.1)), xup_eq, by rw [hlClr_off hl (i := 4) (by decide) (by decide)]; exact xup_of (by omega) (xup_of (by omega) (hH.2.2.2.2.1)), by rw [hlClr_off hl (i := 5) (by decide) (by decide)]; exact xup_of (by omega) (xup_of (by omega) (hH.2.2.2.2.2.1)), by rw [hlClr_off hl (i := 6) (by decide) (by decide)]; exact xup_of (by omega) (xup_of (by omega) (hH.2.2.2.2.2.2.1)), by rw [hlClr_off hl (i := 7) (by decide) (by decide)]; exact xup_of (by omega) (xup_of (by omega) (hH.2.2.2.2.2.2.2.1)), hlClr_lt hH.2.2.2.2.2.2.2.2⟩, ((Fr.rf).up1 (by omega) (by omega)).up1 (by omega) (by omega)⟩ rfl rfl rfl)
theorem Hall_init {K : xG} {b : Nat} {G : xHp} (hb : G b = some (eO 3 [.int 0, .int 0, .int 0, .int 0, .int 0, .null, .null, .null, .null, .null, .null, .null])) : xCall K mX3_init 1 7 52 [.ref b] (b + 1) G (xEx (fun G' => HallAt G' b (fun _ _ => 0) ∧ Fr G G' b 8) (fun _ => none) (fun _ => b + 8) (fun G' => G')) := by
  refine x_entry (by decide) (ls := [(0, .ref b)]) rfl (Nat.le_of_ble_eq_true rfl) ?_
  refine x_aload_n dX3_init_0 0 rfl ?_
  refine x_objInit dX3_init_1 lX3_3 xw_objI xw_objC (by decide) (Nat.le_of_ble_eq_true rfl) ?_
  refine x_aload_n dX3_init_4 0 rfl ?_
  refine x_iconst dX3_init_5 ki_4 ?_
  refine x_newa (cb := 6) (sb := 48) (t := 0) (N0 := 4) dX3_init_6 rfl xac_int (fun _ => rfl) (fun _ _ => rfl) rfl (by decide) (by decide) (by decide) ?_
  refine x_hh (h' := b + 2) rfl ?_
  refine x_putF (fs' := [.int 0, .int 0, .int 0, .int 0, .int 0, .ref (b + 1), .null, .null, .null, .null, .null, .null]) dX3_init_8 fX3_9 rfl rfl (xup_of (by omega) (hb)) (Nat.le_of_ble_eq_true rfl) rfl rfl rfl ?_
  refine x_aload_n dX3_init_11 0 rfl ?_
  refine x_iconst dX3_init_12 ki_4 ?_
  refine x_newa (cb := 5) (sb := 44) (t := 0) (N0 := 4) dX3_init_13 rfl xac_int (fun _ => rfl) (fun _ _ => rfl) rfl (by decide) (by decide) (by decide) ?_
  refine x_hh (h' := b + 3) rfl ?_
  refine x_pc (pc' := 15) rfl ?_
  refine x_putF (fs' := [.int 0, .int 0, .int 0, .int 0, .int 0, .ref (b + 1), .ref (b + 2), .null, .null, .null, .null, .null]) dX3_init_15 fX3_15 rfl rfl (xup_of (by omega) (xup_eq)) (Nat.le_of_ble_eq_true rfl) rfl rfl rfl ?_
  refine x_geq (xup_dig (by omega)) ?_
  refine x_aload_n dX3_init_18 0 rfl ?_
  refine x_bipush dX3_init_19 kb_16 ?_
  refine x_newa (cb := 4) (sb := 28) (t := 0) (N0 := 16) dX3_init_21 rfl xac_int (fun _ => rfl) (fun _ _ => rfl) rfl (by decide) (by decide) (by decide) ?_
  refine x_hh (h' := b + 4) rfl ?_
  refine x_putF (fs' := [.int 0, .int 0, .int 0, .int 0, .int 0, .ref (b + 1), .ref (b + 2), .ref (b + 3), .null, .null, .null, .null]) dX3_init_23 fX3_18 rfl rfl (xup_of (by omega) (xup_of (by omega) (xup_eq))) (Nat.le_of_ble_eq_true rfl) rfl rfl rfl ?_
  refine x_geq (xup_dig2 (by omega) (by omega)) ?_
  refine x_aload_n dX3_init_26 0 rfl ?_
  refine x_bipush dX3_init_27 kb_7 ?_
  refine x_newa (cb := 3) (sb := 21) (t := 0) (N0 := 7) dX3_init_29 rfl xac_int (fun _ => rfl) (fun _ _ => rfl) rfl (by decide) (by decide) (by decide) ?_
  refine x_hh (h' := b + 5) rfl ?_
  refine x_putF (fs' := [.int 0, .int 0, .int 0, .int 0, .int 0, .ref (b + 1), .ref (b + 2), .ref (b + 3), .ref (b + 4), .null, .null, .null]) dX3_init_31 fX3_21 rfl rfl (xup_of (by omega) (xup_of (by omega) (xup_of (by omega) (xup_eq)))) (Nat.le_of_ble_eq_true rfl) rfl rfl rfl ?_
  refine x_geq (xup_dig3 (by omega) (by omega) (by omega)) ?_
  refine x_aload_n dX3_init_34 0 rfl ?_
  refine x_pc (pc' := 35) rfl ?_
  refine x_bipush dX3_init_35 kb_7 ?_
  refine x_newa (cb := 2) (sb := 14) (t := 0) (N0 := 7) dX3_init_37 rfl xac_int (fun _ => rfl) (fun _ _ => rfl) rfl (by decide) (by decide) (by decide) ?_
  refine x_hh (h' := b + 6) rfl ?_
  refine x_putF (fs' := [.int 0, .int 0, .int 0, .int 0, .int 0, .ref (b + 1), .ref (b + 2), .ref (b + 3), .ref (b + 4), .ref (b + 5), .null, .null]) dX3_init_39 fX3_24 rfl rfl (xup_of (by omega) (xup_of (by omega) (xup_of (by omega) (xup_of (by omega) (xup_eq))))) (Nat.le_of_ble_eq_true rfl) rfl rfl rfl ?_
  refine x_geq (xup_dig4 (by omega) (by omega) (by omega) (by omega)) ?_
  refine x_aload_n dX3_init_42 0 rfl ?_
  refine x_bipush dX3_init_43 kb_7 ?_
  refine x_newa (cb := 1) (sb := 7) (t := 0) (N0 := 7) dX3_init_45 rfl xac_int (fun _ => rfl) (fun _ _ => rfl) rfl (by decide) (by decide) (by decide) ?_
  refine x_hh (h' := b + 7) rfl ?_
  refine x_putF (fs' := [.int 0, .int 0, .int 0, .int 0, .int 0, .ref (b + 1), .ref (b + 2), .ref (b + 3), .ref (b + 4), .ref (b + 5), .ref (b + 6), .null]) dX3_init_47 fX3_27 rfl rfl (xup_of (by omega) (xup_of (by omega) (xup_of (by omega) (xup_of (by omega) (xup_of (by omega) (xup_eq)))))) (Nat.le_of_ble_eq_true rfl) rfl rfl rfl ?_
  refine x_geq (xup_dig5 (by omega) (by omega) (by omega) (by omega) (by omega)) ?_
  refine x_aload_n dX3_init_50 0 rfl ?_
  refine x_bipush dX3_init_51 kb_7 ?_
  refine x_newa (cb := 0) (sb := 0) (t := 0) (N0 := 7) dX3_init_53 rfl xac_int (fun _ => rfl) (fun _ _ => rfl) rfl (by decide) (by decide) (by decide) ?_
  refine x_hh (h' := b + 8) rfl ?_
  refine x_pc (pc' := 55) rfl ?_
  refine x_putF (fs' := [.int 0, .int 0, .int 0, .int 0, .int 0, .ref (b + 1), .ref (b + 2), .ref (b + 3), .ref (b + 4), .ref (b + 5), .ref (b + 6), .ref (b + 7)]) dX3_init_55 fX3_30 rfl rfl (xup_of (by omega) (xup_of (by omega) (xup_of (by omega) (xup_of (by omega) (xup_of (by omega) (xup_of (by omega) (xup_eq))))))) (Nat.le_of_ble_eq_true rfl) rfl rfl rfl ?_
  refine x_geq (xup_dig6 (by omega) (by omega) (by omega) (by omega) (by omega) (by omega)) ?_
  exact x_vret dX3_init_58 rfl (xEx_i (xup (xup (xup (xup (xup (xup (xup (xup G (b + 1) (eI 0 4 (fun _ => 0))) b (eO 3 [.int 0, .int 0, .int 0, .int 0, .int 0, .ref (b + 1), .ref (b + 2), .ref (b + 3), .ref (b + 4), .ref (b + 5), .ref (b + 6), .ref (b + 7)])) (b + 2) (eI 0 4 (fun _ => 0))) (b + 3) (eI 0 16 (fun _ => 0))) (b + 4) (eI 0 7 (fun _ => 0))) (b + 5) (eI 0 7 (fun _ => 0))) (b + 6) (eI 0 7 (fun _ => 0))) (b + 7) (eI 0 7 (fun _ => 0))) ⟨⟨xup_of (by omega) (xup_of (by omega) (xup_of (by omega) (xup_of (by omega) (xup_of (by omega) (xup_of (by omega) (xup_eq)))))), xup_of (by omega) (xup_of (by omega) (xup_of (by omega) (xup_of (by omega) (xup_of (by omega) (xup_of (by omega) (xup_of (by omega) (xup_eq))))))), xup_of (by omega) (xup_of (by omega) (xup_of (by omega) (xup_of (by omega) (xup_of (by omega) (xup_eq))))), xup_of (by omega) (xup_of (by omega) (xup_of (by omega) (xup_of (by omega) (xup_eq)))), xup_of (by omega) (xup_of (by omega) (xup_of (by omega) (xup_eq))), xup_of (by omega) (xup_of (by omega) (xup_eq)), xup_of (by omega) (xup_eq), xup_eq, fun _ _ => by simp⟩, ((((((((Fr.rf).up1 (by omega) (by omega)).up1 (by omega) (by omega)).up1 (by omega) (by omega)).up1 (by omega) (by omega)).up1 (by omega) (by omega)).up1 (by omega) (by omega)).up1 (by omega) (by omega)).up1 (by omega) (by omega)⟩ rfl rfl rfl)
