theorem Md_image_n {K : xG} {h y : Nat} {G0 G : xHp} {hl : xHl} {r : xRw} {sc : Nat × Nat × Int32} {A : Nat → Nat → Int32} {F : Nat → Int32} {wa sa : Nat → Int64} {v : Int32} (hM : MW G0 G y hl r sc A F wa sa) (hO : HallOk hl) (hn : inR v 4 = false) : xCall K mX12_image 2 0 0 [.ref y, .int v] h G (xRet (some (.int (-1))) h G) := by
  refine x_entry (by decide) (ls := [(0, .ref y), (1, .int v)]) rfl (Nat.le_of_ble_eq_true rfl) ?_
  have hB := hM.hB
  obtain ⟨o2, o3, o4, o5, o6, o7, o8, o9⟩ := id hO
  refine x_iload_n dX12_image_0 1 rfl ?_
  refine x_i2l dX12_image_1 ?_
  refine x_lconst (v := 0) dX12_image_2 rfl ?_
  refine x_ldc2 dX12_image_3 cX12_515 ?_
  refine x_cS (N := mX12_in) (d' := 0) (mc := 0) (ms := 0) (cb := 0) (sb := 0) (As := [.long v.toInt64, .long 0, .long (3 : Int64)]) (st := []) dX12_image_6 mX12_in_s lX12_155 rfl (by decide) (Nat.le_of_ble_eq_true rfl) (Md_in) rfl (st1 := [.int (bI (decide (0 ≤ v.toInt64 ∧ v.toInt64 ≤ (3 : Int64))))]) rfl ?_
  refine x_ifB_ne (tgt := 14) dX12_image_9 (by decide) (fun c9 => ?_) (fun c9 => ?_)
  · exact absurd ((in_3 v).symm.trans c9) (by rw [hn]; decide)
  · refine x_iconst dX12_image_12 ki_m1 ?_
    exact x_iret dX12_image_13 rfl (xRet_i)
theorem Md_image_y {K : xG} {h y k : Nat} {G0 G : xHp} {hl : xHl} {r : xRw} {sc : Nat × Nat × Int32} {A : Nat → Nat → Int32} {F : Nat → Int32} {wa sa : Nat → Int64} (hM : MW G0 G y hl r sc A F wa sa) (hO : HallOk hl) (hk4 : k < 4) : xCall K mX12_image 2 0 0 [.ref y, .int (nI k)] h G (mdQ G0 h y (some (.int (r 0))) hl r sc (setA (setA (setA A 45 (upd (A 45) k (vp_nar .boolean (nI 1)))) 38 (upd ((setA A 45 (upd (A 45) k (vp_nar .boolean (nI 1)))) 38) 0 (F 49))) 44 (svI (ovr (setA (setA A 45 (upd (A 45) k (vp_nar .boolean (nI 1)))) 38 (upd ((setA A 45 (upd (A 45) k (vp_nar .boolean (nI 1)))) 38) 0 (F 49))) hl r sc) (900 * k) 20)) (cF F 0 (900 * k + 826)) wa sa) := by
  refine x_entry (by decide) (ls := [(0, .ref y), (1, .int (nI k))]) rfl (Nat.le_of_ble_eq_true rfl) ?_
  have hB := hM.hB
  obtain ⟨o2, o3, o4, o5, o6, o7, o8, o9⟩ := id hO
  refine x_iload_n dX12_image_0 1 rfl ?_
  refine x_i2l dX12_image_1 ?_
  refine x_lconst (v := 0) dX12_image_2 rfl ?_
  refine x_ldc2 dX12_image_3 cX12_515 ?_
  refine x_cS (N := mX12_in) (d' := 0) (mc := 0) (ms := 0) (cb := 0) (sb := 0) (As := [.long ((nI k).toInt64), .long 0, .long (3 : Int64)]) (st := []) dX12_image_6 mX12_in_s lX12_155 rfl (by decide) (Nat.le_of_ble_eq_true rfl) (Md_in) rfl (st1 := [.int (bI (decide (0 ≤ (nI k).toInt64 ∧ (nI k).toInt64 ≤ (3 : Int64))))]) rfl ?_
  refine x_ifB_ne (tgt := 14) dX12_image_9 (by decide) (fun c9 => ?_) (fun c9 => ?_)
  · refine x_aload_n dX12_image_14 0 rfl ?_
    refine x_get (v := .ref (y + 45)) dX12_image_15 fX12_148 (hM.1) rfl ?_
    refine x_iload_n dX12_image_18 1 rfl ?_
    refine x_pc (pc' := 19) rfl ?_
    refine x_iconst dX12_image_19 ki_1 ?_
    refine x_zastN (n := 4) (f := A 45) dX12_image_20 (hM.c45) (by omega) (by decide) ?_
    have hM1 := hM.a45 (upd (A 45) k (vp_nar .boolean (nI 1)))
    refine x_aload_n dX12_image_21 0 rfl ?_
    refine x_iload_n dX12_image_22 1 rfl ?_
    refine x_iconst dX12_image_23 ki_0 ?_
    refine x_cVe (N := mX12_carriesAll) (d' := 1) (mc := 0) (ms := 0) (cb := 0) (sb := 0) (As := [.int (nI k), .int (nI 0)]) (st := []) dX12_image_24 mX12_carriesAll_v lX12_436 rfl rfl (hM1.1) rfl (by decide) (Nat.le_of_ble_eq_true rfl) (Md_carry0 hM1.raw hk4) rfl (sf := fun G2 => []) (fun _ => rfl) (fun G2 hq2 => ?_)
    have hN2 : MW G0 G2 y hl r sc (setA (setA (setA A 45 (upd (A 45) k (vp_nar .boolean (nI 1)))) 38 (upd ((setA A 45 (upd (A 45) k (vp_nar .boolean (nI 1)))) 38) 0 (F 49))) 44 (svI (ovr (setA (setA A 45 (upd (A 45) k (vp_nar .boolean (nI 1)))) 38 (upd ((setA A 45 (upd (A 45) k (vp_nar .boolean (nI 1)))) 38) 0 (F 49))) hl r sc) (900 * k) 20)) (cF F 0 (900 * k + 826)) wa sa := RW.md' (by rw [ovr_set (by omega)]; rw [ovr_set (k := 38) (by omega)]; exact hq2) hB
    refine x_aload_n dX12_image_27 0 rfl ?_
    refine x_get (v := .ref (y + 1)) dX12_image_28 fX12_9 (hN2.1) rfl ?_
    refine x_iconst dX12_image_31 ki_5 ?_
    refine x_ialdN (n := 9) (f := scal hl r sc) dX12_image_32 (hN2.c1) (by decide) (by decide) ?_
    refine x_topi (y := r 0) rfl ?_
    refine x_pc (pc' := 33) rfl ?_
    exact x_iret dX12_image_33 rfl (xEx_i G2 hN2 rfl rfl rfl)
  · exact absurd c9 (by rw [in_3, inR_nI (by omega), decide_eq_true hk4]; decide)
theorem Md_back_y {K : xG} {h y k : Nat} {G0 G : xHp} {hl hl2 : xHl} {r r2 : xRw} {sc sc2 : Nat × Nat × Int32} {A A' : Nat → Nat → Int32} {F : Nat → Int32} {wa sa : Nat → Int64} (hM : MW G0 G y hl2 r2 sc2 A F wa sa) (hO : HallOk hl2) (hb : ∀ i j, hl i j < 1000000) (hk4 : k < 4) (hmd : A 45 k = nI 1) (hi : ImK (A 44) k hl r sc A') : xCall K mX12_back 2 0 0 [.ref y, .int (nI k)] h G (mdQ G0 h y (some (.int (r 0))) hl r sc (bkA A A') (cF (upd F 49 (A 44 (900 * k + 50))) 1 (900 * k + 826)) wa sa) := by
  refine x_entry (by decide) (ls := [(0, .ref y), (1, .int (nI k))]) rfl (Nat.le_of_ble_eq_true rfl) ?_
  have hB := hM.hB
  obtain ⟨o2, o3, o4, o5, o6, o7, o8, o9⟩ := id hO
  refine x_iload_n dX12_back_0 1 rfl ?_
  refine x_i2l dX12_back_1 ?_
  refine x_lconst (v := 0) dX12_back_2 rfl ?_
  refine x_ldc2 dX12_back_3 cX12_515 ?_
  refine x_cS (N := mX12_in) (d' := 0) (mc := 0) (ms := 0) (cb := 0) (sb := 0) (As := [.long ((nI k).toInt64), .long 0, .long (3 : Int64)]) (st := []) dX12_back_6 mX12_in_s lX12_155 rfl (by decide) (Nat.le_of_ble_eq_true rfl) (Md_in) rfl (st1 := [.int (bI (decide (0 ≤ (nI k).toInt64 ∧ (nI k).toInt64 ≤ (3 : Int64))))]) rfl ?_
  refine x_ifB_eq (tgt := 21) dX12_back_9 (by decide) (fun c9 => ?_) (fun c9 => ?_)
  · exact absurd c9 (by rw [in_3, inR_nI (by omega), decide_eq_true hk4]; decide)
  · refine x_aload_n dX12_back_12 0 rfl ?_
    refine x_get (v := .ref (y + 45)) dX12_back_13 fX12_148 (hM.1) rfl ?_
    refine x_iload_n dX12_back_16 1 rfl ?_
    refine x_pc (pc' := 17) rfl ?_
    refine x_zaldN (n := 4) (f := A 45) dX12_back_17 (hM.c45) (by omega) (by decide) ?_
    refine x_topi (y := nI 1) (hmd) ?_
    refine x_ifN_ne (tgt := 23) dX12_back_18 (by decide) (by have := hB 0 0; have := hB 0 2; have := hB 0 3; have := hB 0 4; omega) (fun c18 => ?_) (fun c18 => ?_)
    · refine x_aload_n dX12_back_23 0 rfl ?_
      refine x_iload_n dX12_back_24 1 rfl ?_
      refine x_iconst dX12_back_25 ki_1 ?_
      refine x_cVe (N := mX12_carriesAll) (d' := 1) (mc := 0) (ms := 0) (cb := 0) (sb := 0) (As := [.int (nI k), .int (nI 1)]) (st := []) dX12_back_26 mX12_carriesAll_v lX12_436 rfl rfl (hM.1) rfl (by decide) (Nat.le_of_ble_eq_true rfl) (Md_carry1 hM.raw hk4) rfl (sf := fun G2 => []) (fun _ => rfl) (fun G2 hq2 => ?_)
      obtain ⟨G3, hN2, hv⟩ := RW.to_md (hl := hl) (r := r) (sc := sc) (A := bkA A A') hq2 hb (bk_eq hi)
      refine x_eqv hv ?_
      refine x_aload_n dX12_back_29 0 rfl ?_
      refine x_get (v := .ref (y + 1)) dX12_back_30 fX12_9 (hN2.1) rfl ?_
      refine x_iconst dX12_back_33 ki_5 ?_
      refine x_ialdN (n := 9) (f := scal hl r sc) dX12_back_34 (hN2.c1) (by decide) (by decide) ?_
      refine x_topi (y := r 0) rfl ?_
      refine x_pc (pc' := 35) rfl ?_
      exact x_iret dX12_back_35 rfl (xEx_i G3 hN2 rfl rfl rfl)
    · exact absurd c18 (by decide)
theorem Md_back_n {K : xG} {h y : Nat} {G0 G : xHp} {hl : xHl} {r : xRw} {sc : Nat × Nat × Int32} {A : Nat → Nat → Int32} {F : Nat → Int32} {wa sa : Nat → Int64} {v : Int32} (hM : MW G0 G y hl r sc A F wa sa) (hO : HallOk hl) (hn : inR v 4 = false) : xCall K mX12_back 2 0 0 [.ref y, .int v] h G (xRet (some (.int (-1))) h G) := by
  refine x_entry (by decide) (ls := [(0, .ref y), (1, .int v)]) rfl (Nat.le_of_ble_eq_true rfl) ?_
  have hB := hM.hB
  obtain ⟨o2, o3, o4, o5, o6, o7, o8, o9⟩ := id hO
  refine x_iload_n dX12_back_0 1 rfl ?_
  refine x_i2l dX12_back_1 ?_
  refine x_lconst (v := 0) dX12_back_2 rfl ?_
  refine x_ldc2 dX12_back_3 cX12_515 ?_
  refine x_cS (N := mX12_in) (d' := 0) (mc := 0) (ms := 0) (cb := 0) (sb := 0) (As := [.long v.toInt64, .long 0, .long (3 : Int64)]) (st := []) dX12_back_6 mX12_in_s lX12_155 rfl (by decide) (Nat.le_of_ble_eq_true rfl) (Md_in) rfl (st1 := [.int (bI (decide (0 ≤ v.toInt64 ∧ v.toInt64 ≤ (3 : Int64))))]) rfl ?_
  refine x_ifB_eq (tgt := 21) dX12_back_9 (by decide) (fun c9 => ?_) (fun c9 => ?_)
  · refine x_iconst dX12_back_21 ki_m1 ?_
    exact x_iret dX12_back_22 rfl (xRet_i)
  · exact absurd ((in_3 v).symm.trans c9) (by rw [hn]; decide)
theorem Md_back_m {K : xG} {h y k : Nat} {G0 G : xHp} {hl : xHl} {r : xRw} {sc : Nat × Nat × Int32} {A : Nat → Nat → Int32} {F : Nat → Int32} {wa sa : Nat → Int64} (hM : MW G0 G y hl r sc A F wa sa) (hO : HallOk hl) (hk4 : k < 4) (hmd : A 45 k = nI 0) : xCall K mX12_back 2 0 0 [.ref y, .int (nI k)] h G (xRet (some (.int (-1))) h G) := by
  refine x_entry (by decide) (ls := [(0, .ref y), (1, .int (nI k))]) rfl (Nat.le_of_ble_eq_true rfl) ?_
  have hB := hM.hB
  obtain ⟨o2, o3, o4, o5, o6, o7, o8, o9⟩ := id hO
  refine x_iload_n dX12_back_0 1 rfl ?_
  refine x_i2l dX12_back_1 ?_
  refine x_lconst (v := 0) dX12_back_2 rfl ?_
  refine x_ldc2 dX12_back_3 cX12_515 ?_
  refine x_cS (N := mX12_in) (d' := 0) (mc := 0) (ms := 0) (cb := 0) (sb := 0) (As := [.long ((nI k).toInt64), .long 0, .long (3 : Int64)]) (st := []) dX12_back_6 mX12_in_s lX12_155 rfl (by decide) (Nat.le_of_ble_eq_true rfl) (Md_in) rfl (st1 := [.int (bI (decide (0 ≤ (nI k).toInt64 ∧ (nI k).toInt64 ≤ (3 : Int64))))]) rfl ?_
  refine x_ifB_eq (tgt := 21) dX12_back_9 (by decide) (fun c9 => ?_) (fun c9 => ?_)
  · exact absurd c9 (by rw [in_3, inR_nI (by omega), decide_eq_true hk4]; decide)
  · refine x_aload_n dX12_back_12 0 rfl ?_
    refine x_get (v := .ref (y + 45)) dX12_back_13 fX12_148 (hM.1) rfl ?_
    refine x_iload_n dX12_back_16 1 rfl ?_
    refine x_pc (pc' := 17) rfl ?_
    refine x_zaldN (n := 4) (f := A 45) dX12_back_17 (hM.c45) (by omega) (by decide) ?_
    refine x_topi (y := nI 0) (hmd) ?_
    refine x_ifN_ne (tgt := 23) dX12_back_18 (by decide) (by have := hB 0 0; have := hB 0 2; have := hB 0 3; have := hB 0 4; omega) (fun c18 => ?_) (fun c18 => ?_)
    · exact absurd c18 (by decide)
    · refine x_iconst dX12_back_21 ki_m1 ?_
      exact x_iret dX12_back_22 rfl (xRet_i)
