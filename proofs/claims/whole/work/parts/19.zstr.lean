/-! ===== JDK: String.length, charAt of the constants ===== -/
theorem Str_coder {K : xG} {h : Nat} {G : xHp} {i : Nat} (hi : i < xs_n) : xCall K mJ0_coder_7d493 0 0 0 [.ref (K.2.2.2.2.1 i)] h G (xRet (some (.int 0)) h G) := by
  refine x_entry (by decide) (ls := [(0, .ref (K.2.2.2.2.1 i))]) rfl (Nat.le_of_ble_eq_true rfl) ?_
  refine x_gets dJ0_coder_7d493_0 fJ0_38 ?_
  refine x_topi (y := nI 1) rfl ?_
  refine x_ifN_eq (tgt := 13) dJ0_coder_7d493_3 (by decide) (by omega) (fun c3 => ?_) (fun c3 => ?_)
  · exact absurd c3 (by decide)
  · refine x_aload_n dJ0_coder_7d493_6 0 rfl ?_
    refine x_sget_coder i hi dJ0_coder_7d493_7 fJ0_15 ?_
    refine x_goto (tgt := 14) dJ0_coder_7d493_10 (by decide) ?_
    exact x_zret dJ0_coder_7d493_14 rfl (by first | rfl | decide | exact bI_nar _) (xRet_i)
theorem Str_isLatin1 {K : xG} {h : Nat} {G : xHp} {i : Nat} (hi : i < xs_n) : xCall K mJ0_isLatin1_aae02 0 0 0 [.ref (K.2.2.2.2.1 i)] h G (xRet (some (.int (nI 1))) h G) := by
  refine x_entry (by decide) (ls := [(0, .ref (K.2.2.2.2.1 i))]) rfl (Nat.le_of_ble_eq_true rfl) ?_
  refine x_gets dJ0_isLatin1_aae02_0 fJ0_38 ?_
  refine x_topi (y := nI 1) rfl ?_
  refine x_ifN_eq (tgt := 17) dJ0_isLatin1_aae02_3 (by decide) (by omega) (fun c3 => ?_) (fun c3 => ?_)
  · exact absurd c3 (by decide)
  · refine x_aload_n dJ0_isLatin1_aae02_6 0 rfl ?_
    refine x_sget_coder i hi dJ0_isLatin1_aae02_7 fJ0_15 ?_
    refine x_if_ne (tgt := 17) dJ0_isLatin1_aae02_10 (by decide) (fun c10 => ?_) (fun c10 => ?_)
    · exact absurd rfl c10
    · refine x_iconst dJ0_isLatin1_aae02_13 ki_1 ?_
      refine x_goto (tgt := 18) dJ0_isLatin1_aae02_14 (by decide) ?_
      exact x_zret dJ0_isLatin1_aae02_18 rfl (by first | rfl | decide | exact bI_nar _) (xRet_i)
theorem Str_length {K : xG} {h : Nat} {G : xHp} {i : Nat} (hi : i < xs_n) : xCall K mJ0_length_8abf5 1 0 0 [.ref (K.2.2.2.2.1 i)] h G (xRet (some (.int (nI (xs_byt i).length))) h G) := by
  refine x_entry (by decide) (ls := [(0, .ref (K.2.2.2.2.1 i))]) rfl (Nat.le_of_ble_eq_true rfl) ?_
  refine x_aload_n dJ0_length_8abf5_0 0 rfl ?_
  refine x_sget_value i hi dJ0_length_8abf5_1 fJ0_9 ?_
  refine x_salen i hi dJ0_length_8abf5_4 ?_
  refine x_aload_n dJ0_length_8abf5_5 0 rfl ?_
  refine x_cVS (i := i) (N := mJ0_coder_7d493) (d' := 0) (mc := 0) (ms := 0) (cb := 0) (sb := 0) (As := []) (st := [.int (nI ((xs_byt i).length))]) hi dJ0_length_8abf5_6 mJ0_coder_7d493_v rfl lJ0_335 rfl (by decide) (Nat.le_of_ble_eq_true rfl) (Str_coder hi) rfl (st1 := [.int 0, .int (nI ((xs_byt i).length))]) rfl ?_
  refine x_ishr dJ0_length_8abf5_9 ?_
  exact x_iret dJ0_length_8abf5_10 rfl (xRet_e (by rw [sb_shr0]) rfl)
theorem Pre_checkIndex {K : xG} {h : Nat} {G : xHp} {j n : Nat} {tf : Value} (hf : tf = .null ∨ ∃ t, tf = .ref t) (hj : j < n) (hn : n < 2 ^ 31) : xCall K mJ3_checkIndex_8e157 0 0 0 [.int (nI j), .int (nI n), tf] h G (xRet (some (.int (nI j))) h G) := by
  rcases hf with rfl | ⟨t, rfl⟩
  · refine x_entry (by decide) (ls := [(0, .int (nI j)), (1, .int (nI n)), (2, .null)]) rfl (Nat.le_of_ble_eq_true rfl) ?_
    refine x_iload_n dJ3_checkIndex_8e157_0 0 rfl ?_
    refine x_ifN_lt (tgt := 9) dJ3_checkIndex_8e157_1 (by decide) (by omega) (fun c1 => ?_) (fun c1 => ?_)
    · exact absurd c1 id
    · refine x_iload_n dJ3_checkIndex_8e157_4 0 rfl ?_
      refine x_iload_n dJ3_checkIndex_8e157_5 1 rfl ?_
      refine x_icmpN_lt (tgt := 16) dJ3_checkIndex_8e157_6 (by decide) (by omega) (by omega) (fun c6 => ?_) (fun c6 => ?_)
      · refine x_iload_n dJ3_checkIndex_8e157_16 0 rfl ?_
        exact x_iret dJ3_checkIndex_8e157_17 rfl (xRet_i)
      · exact absurd c6 (by omega)
  · refine x_entry (by decide) (ls := [(0, .int (nI j)), (1, .int (nI n)), (2, .ref t)]) rfl (Nat.le_of_ble_eq_true rfl) ?_
    refine x_iload_n dJ3_checkIndex_8e157_0 0 rfl ?_
    refine x_ifN_lt (tgt := 9) dJ3_checkIndex_8e157_1 (by decide) (by omega) (fun c1 => ?_) (fun c1 => ?_)
    · exact absurd c1 id
    · refine x_iload_n dJ3_checkIndex_8e157_4 0 rfl ?_
      refine x_iload_n dJ3_checkIndex_8e157_5 1 rfl ?_
      refine x_icmpN_lt (tgt := 16) dJ3_checkIndex_8e157_6 (by decide) (by omega) (by omega) (fun c6 => ?_) (fun c6 => ?_)
      · refine x_iload_n dJ3_checkIndex_8e157_16 0 rfl ?_
        exact x_iret dJ3_checkIndex_8e157_17 rfl (xRet_i)
      · exact absurd c6 (by omega)
theorem Str_checkIndex {K : xG} {h : Nat} {G : xHp} {j n : Nat} (hj : j < n) (hn : n < 2 ^ 31) : xCall K mJ0_checkIndex_df160 1 0 0 [.int (nI j), .int (nI n)] h G (xRet none h G) := by
  refine x_entry (by decide) (ls := [(0, .int (nI j)), (1, .int (nI n))]) rfl (Nat.le_of_ble_eq_true rfl) ?_
  refine x_iload_n dJ0_checkIndex_df160_0 0 rfl ?_
  refine x_iload_n dJ0_checkIndex_df160_1 1 rfl ?_
  refine x_getsF dJ0_checkIndex_df160_2 fJ0_1053 (fun tf hf => ?_)
  refine x_cS (N := mJ3_checkIndex_8e157) (d' := 0) (mc := 0) (ms := 0) (cb := 0) (sb := 0) (As := [.int (nI j), .int (nI n), tf]) (st := []) dJ0_checkIndex_df160_5 mJ3_checkIndex_8e157_s lJ0_1059 rfl (by decide) (Nat.le_of_ble_eq_true rfl) (Pre_checkIndex hf hj hn) rfl (st1 := [.int (nI j)]) rfl ?_
  refine x_pop dJ0_checkIndex_df160_8 rfl ?_
  exact x_vret dJ0_checkIndex_df160_9 rfl (xRet_i)
def xs_ch (i j : Nat) : Int32 := (xs_byt i).getD j 0
theorem xs_len_lt (i : Nat) : (xs_byt i).length < 1000 := by
  by_cases h : i < 26
  · exact (by decide +kernel : ∀ i, i < 26 → (xs_byt i).length < 1000) i h
  · have h9 : xs_bytes.length = 26 := by decide +kernel
    have h8 : xs_bytes[i]? = none := List.getElem?_eq_none (by omega)
    have : xs_byt i = [] := by unfold xs_byt; rw [List.getD_eq_getElem?_getD, h8]; rfl
    rw [this]; decide
theorem xs_ch_c : ∀ i, i < 26 → ∀ j, j < (xs_byt i).length → (((xs_byt i).getD j 0 &&& nI 255).toUInt32 % 65536).toInt32 = xs_ch i j ∧ narrow .char (.int (xs_ch i j)) = .int (xs_ch i j) := by decide +kernel
theorem Lat_charAt {K : xG} {h : Nat} {G : xHp} {i : Nat} (hi : i < xs_n) {j : Nat} (hj : j < (xs_byt i).length) : xCall K mJ1_charAt_3b067 2 0 0 [.ref (K.2.2.2.2.2 i), .int (nI j)] h G (xRet (some (.int (xs_ch i j))) h G) := by
  refine x_entry (by decide) (ls := [(0, .ref (K.2.2.2.2.2 i)), (1, .int (nI j))]) rfl (Nat.le_of_ble_eq_true rfl) ?_
  have hl := xs_len_lt i
  refine x_iload_n dJ1_charAt_3b067_0 1 rfl ?_
  refine x_aload_n dJ1_charAt_3b067_1 0 rfl ?_
  refine x_salen i hi dJ1_charAt_3b067_2 ?_
  refine x_cS (N := mJ0_checkIndex_df160) (d' := 1) (mc := 0) (ms := 0) (cb := 0) (sb := 0) (As := [.int (nI j), .int (nI ((xs_byt i).length))]) (st := []) dJ1_charAt_3b067_3 mJ0_checkIndex_df160_s lJ1_9 rfl (by decide) (Nat.le_of_ble_eq_true rfl) (Str_checkIndex hj (by omega)) rfl (st1 := []) rfl ?_
  refine x_aload_n dJ1_charAt_3b067_6 0 rfl ?_
  refine x_iload_n dJ1_charAt_3b067_7 1 rfl ?_
  refine x_sbald i hi hj (by omega) dJ1_charAt_3b067_8 ?_
  refine x_sipush dJ1_charAt_3b067_9 ks_255 ?_
  refine x_iand dJ1_charAt_3b067_12 ?_
  refine x_pc (pc' := 13) rfl ?_
  refine x_i2c dJ1_charAt_3b067_13 ?_
  refine x_topi (xs_ch_c i hi j hj).1 ?_
  exact x_zret dJ1_charAt_3b067_14 rfl (xs_ch_c i hi j hj).2 (xRet_i)
theorem Str_charAt {K : xG} {h : Nat} {G : xHp} {i : Nat} (hi : i < xs_n) {j : Nat} (hj : j < (xs_byt i).length) : xCall K mJ0_charAt_5068e 3 0 0 [.ref (K.2.2.2.2.1 i), .int (nI j)] h G (xRet (some (.int (xs_ch i j))) h G) := by
  refine x_entry (by decide) (ls := [(0, .ref (K.2.2.2.2.1 i)), (1, .int (nI j))]) rfl (Nat.le_of_ble_eq_true rfl) ?_
  refine x_aload_n dJ0_charAt_5068e_0 0 rfl ?_
  refine x_cVS (i := i) (N := mJ0_isLatin1_aae02) (d' := 0) (mc := 0) (ms := 0) (cb := 0) (sb := 0) (As := []) (st := []) hi dJ0_charAt_5068e_1 mJ0_isLatin1_aae02_v rfl lJ0_492 rfl (by decide) (Nat.le_of_ble_eq_true rfl) (Str_isLatin1 hi) rfl (st1 := [.int (nI 1)]) rfl ?_
  refine x_ifN_eq (tgt := 16) dJ0_charAt_5068e_4 (by decide) (by omega) (fun c4 => ?_) (fun c4 => ?_)
  · exact absurd c4 (by decide)
  · refine x_aload_n dJ0_charAt_5068e_7 0 rfl ?_
    refine x_sget_value i hi dJ0_charAt_5068e_8 fJ0_9 ?_
    refine x_iload_n dJ0_charAt_5068e_11 1 rfl ?_
    refine x_cS (N := mJ1_charAt_3b067) (d' := 2) (mc := 0) (ms := 0) (cb := 0) (sb := 0) (As := [.ref (K.2.2.2.2.2 i), .int (nI j)]) (st := []) dJ0_charAt_5068e_12 mJ1_charAt_3b067_s lJ0_495 rfl (by decide) (Nat.le_of_ble_eq_true rfl) (Lat_charAt hi hj) rfl (st1 := [.int (xs_ch i j)]) rfl ?_
    exact x_zret dJ0_charAt_5068e_15 rfl (xs_ch_c i hi j hj).2 (xRet_i)
