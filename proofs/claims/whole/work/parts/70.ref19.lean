theorem Md_thing {K : xG} {h y : Nat} {G0 G : xHp} {hl : xHl} {r : xRw} {sc : Nat × Nat × Int32} {A : Nat → Nat → Int32} {F : Nat → Int32} {wa sa : Nat → Int64} {v w : Int32} (hM : MW G0 G y hl r sc A F wa sa) (hO : HallOk hl) : xCall K mX12_thing 2 0 0 [.ref y, .int v, .int w] h G (xRet (some (.int (thingS hl r v w))) h G) := by
  refine x_entry (by decide) (ls := [(0, .ref y), (1, .int v), (2, .int w)]) rfl (Nat.le_of_ble_eq_true rfl) ?_
  have hB := hM.hB
  obtain ⟨o2, o3, o4, o5, o6, o7, o8, o9⟩ := id hO
  refine x_aload_n dX12_thing_0 0 rfl ?_
  refine x_iload_n dX12_thing_1 1 rfl ?_
  refine x_cV (N := mX12_isThing) (d' := 1) (mc := 0) (ms := 0) (cb := 0) (sb := 0) (As := [.int v]) (st := []) dX12_thing_2 mX12_isThing_v lX12_360 rfl rfl (hM.1) rfl (by decide) (Nat.le_of_ble_eq_true rfl) (Md_isThing hM) rfl (st1 := [.int (bI (inR v (hl 0 4)))]) rfl ?_
  refine x_ifB_ne (tgt := 11) dX12_thing_5 (by decide) (fun c5 => ?_) (fun c5 => ?_)
  · obtain ⟨t, ht, hvt⟩ := inR_of c5
    subst hvt
    have hth := thN_nI (t := t) (by omega)
    refine x_iload_n dX12_thing_11 2 rfl ?_
    rcases xsw_0_6 w with c12 | c12 | c12 | c12 | c12 | c12 | c12
    · refine x_tableIn (tgt := 52) (off := 40) dX12_thing_12 (by rw [c12]; decide) (by rw [c12]; decide) (by rw [c12]; rfl) (by decide) ?_
      refine x_aload_n dX12_thing_52 0 rfl ?_
      refine x_get (v := .ref (y + 9)) dX12_thing_53 fX12_34 (hM.1) rfl ?_
      refine x_iload_n dX12_thing_56 1 rfl ?_
      refine x_pc (pc' := 57) rfl ?_
      refine x_ialdN (n := 7) (f := nF (hl 4)) dX12_thing_57 (hM.c9) (by omega) (by decide) ?_
      exact x_iret dX12_thing_58 rfl (xRet_e (by unfold thingS; rw [if_pos c5, hth, c12, if_pos rfl]) rfl)
    · refine x_tableIn (tgt := 59) (off := 47) dX12_thing_12 (by rw [c12]; decide) (by rw [c12]; decide) (by rw [c12]; rfl) (by decide) ?_
      refine x_aload_n dX12_thing_59 0 rfl ?_
      refine x_get (v := .ref (y + 10)) dX12_thing_60 fX12_37 (hM.1) rfl ?_
      refine x_iload_n dX12_thing_63 1 rfl ?_
      refine x_pc (pc' := 64) rfl ?_
      refine x_ialdN (n := 7) (f := nF (hl 5)) dX12_thing_64 (hM.c10) (by omega) (by decide) ?_
      exact x_iret dX12_thing_65 rfl (xRet_e (by unfold thingS; rw [if_pos c5, hth, c12, if_neg (by decide), if_pos rfl]) rfl)
    · refine x_tableIn (tgt := 66) (off := 54) dX12_thing_12 (by rw [c12]; decide) (by rw [c12]; decide) (by rw [c12]; rfl) (by decide) ?_
      refine x_aload_n dX12_thing_66 0 rfl ?_
      refine x_get (v := .ref (y + 11)) dX12_thing_67 fX12_40 (hM.1) rfl ?_
      refine x_iload_n dX12_thing_70 1 rfl ?_
      refine x_pc (pc' := 71) rfl ?_
      refine x_ialdN (n := 7) (f := nF (hl 6)) dX12_thing_71 (hM.c11) (by omega) (by decide) ?_
      exact x_iret dX12_thing_72 rfl (xRet_e (by unfold thingS; rw [if_pos c5, hth, c12, if_neg (by decide), if_neg (by decide), if_pos rfl]) rfl)
    · refine x_tableIn (tgt := 73) (off := 61) dX12_thing_12 (by rw [c12]; decide) (by rw [c12]; decide) (by rw [c12]; rfl) (by decide) ?_
      refine x_aload_n dX12_thing_73 0 rfl ?_
      refine x_get (v := .ref (y + 12)) dX12_thing_74 fX12_43 (hM.1) rfl ?_
      refine x_iload_n dX12_thing_77 1 rfl ?_
      refine x_pc (pc' := 78) rfl ?_
      refine x_ialdN (n := 7) (f := nF (hl 7)) dX12_thing_78 (hM.c12) (by omega) (by decide) ?_
      exact x_iret dX12_thing_79 rfl (xRet_e (by unfold thingS; rw [if_pos c5, hth, c12, if_neg (by decide), if_neg (by decide), if_neg (by decide), if_pos rfl]) rfl)
    · refine x_tableIn (tgt := 80) (off := 68) dX12_thing_12 (by rw [c12]; decide) (by rw [c12]; decide) (by rw [c12]; rfl) (by decide) ?_
      refine x_aload_n dX12_thing_80 0 rfl ?_
      refine x_get (v := .ref (y + 13)) dX12_thing_81 fX12_46 (hM.1) rfl ?_
      refine x_iload_n dX12_thing_84 1 rfl ?_
      refine x_pc (pc' := 85) rfl ?_
      refine x_ialdN (n := 7) (f := blk r 21 7) dX12_thing_85 (hM.c13) (by omega) (by decide) ?_
      refine x_topi (y := r (21 + t)) (blk_at (by omega)) ?_
      exact x_iret dX12_thing_86 rfl (xRet_e (by unfold thingS; rw [if_pos c5, hth, c12, if_neg (by decide), if_neg (by decide), if_neg (by decide), if_neg (by decide), if_pos rfl]) rfl)
    · refine x_tableIn (tgt := 87) (off := 75) dX12_thing_12 (by rw [c12]; decide) (by rw [c12]; decide) (by rw [c12]; rfl) (by decide) ?_
      refine x_aload_n dX12_thing_87 0 rfl ?_
      refine x_get (v := .ref (y + 14)) dX12_thing_88 fX12_49 (hM.1) rfl ?_
      refine x_iload_n dX12_thing_91 1 rfl ?_
      refine x_pc (pc' := 92) rfl ?_
      refine x_ialdN (n := 7) (f := blk r 28 7) dX12_thing_92 (hM.c14) (by omega) (by decide) ?_
      refine x_topi (y := r (28 + t)) (blk_at (by omega)) ?_
      exact x_iret dX12_thing_93 rfl (xRet_e (by unfold thingS; rw [if_pos c5, hth, c12, if_neg (by decide), if_neg (by decide), if_neg (by decide), if_neg (by decide), if_neg (by decide), if_pos rfl]) rfl)
    · refine x_tableOut (tgt := 94) dX12_thing_12 (by omega) (by decide) ?_
      refine x_bipush dX12_thing_94 kb_m2 ?_
      exact x_iret dX12_thing_96 rfl (xRet_e (by unfold thingS; rw [if_pos c5, hth, if_neg (fun e => absurd (e ▸ c12) (by decide)), if_neg (fun e => absurd (e ▸ c12) (by decide)), if_neg (fun e => absurd (e ▸ c12) (by decide)), if_neg (fun e => absurd (e ▸ c12) (by decide)), if_neg (fun e => absurd (e ▸ c12) (by decide)), if_neg (fun e => absurd (e ▸ c12) (by decide))]) rfl)
  · refine x_bipush dX12_thing_8 kb_m2 ?_
    exact x_iret dX12_thing_10 rfl (xRet_e (by unfold thingS; rw [if_neg (by rw [c5]; decide)]) rfl)
theorem Md_mender {K : xG} {h y : Nat} {G0 G : xHp} {hl : xHl} {r : xRw} {sc : Nat × Nat × Int32} {A : Nat → Nat → Int32} {F : Nat → Int32} {wa sa : Nat → Int64} {v w : Int32} (hM : MW G0 G y hl r sc A F wa sa) (hO : HallOk hl) : xCall K mX12_mender 2 0 0 [.ref y, .int v, .int w] h G (xRet (some (.int (menderS hl r v w))) h G) := by
  refine x_entry (by decide) (ls := [(0, .ref y), (1, .int v), (2, .int w)]) rfl (Nat.le_of_ble_eq_true rfl) ?_
  have hB := hM.hB
  obtain ⟨o2, o3, o4, o5, o6, o7, o8, o9⟩ := id hO
  refine x_aload_n dX12_mender_0 0 rfl ?_
  refine x_iload_n dX12_mender_1 1 rfl ?_
  refine x_cV (N := mX12_isMender) (d' := 1) (mc := 0) (ms := 0) (cb := 0) (sb := 0) (As := [.int v]) (st := []) dX12_mender_2 mX12_isMender_v lX12_364 rfl rfl (hM.1) rfl (by decide) (Nat.le_of_ble_eq_true rfl) (Md_isMender hM) rfl (st1 := [.int (bI (inR v (hl 0 3)))]) rfl ?_
  refine x_ifB_ne (tgt := 11) dX12_mender_5 (by decide) (fun c5 => ?_) (fun c5 => ?_)
  · obtain ⟨q, hq, hvq⟩ := inR_of c5
    subst hvq
    have hth := thN_nI (t := q) (by omega)
    refine x_iload_n dX12_mender_11 2 rfl ?_
    rcases xsw_0_8 w with c12 | c12 | c12 | c12 | c12 | c12 | c12 | c12 | c12
    · refine x_tableIn (tgt := 60) (off := 48) dX12_mender_12 (by rw [c12]; decide) (by rw [c12]; decide) (by rw [c12]; rfl) (by decide) ?_
      refine x_aload_n dX12_mender_60 0 rfl ?_
      refine x_get (v := .ref (y + 5)) dX12_mender_61 fX12_22 (hM.1) rfl ?_
      refine x_iload_n dX12_mender_64 1 rfl ?_
      refine x_pc (pc' := 65) rfl ?_
      refine x_ialdN (n := 4) (f := blk r 5 4) dX12_mender_65 (hM.c5) (by omega) (by decide) ?_
      refine x_topi (y := r (5 + q)) (blk_at (by omega)) ?_
      exact x_iret dX12_mender_66 rfl (xRet_e (by unfold menderS; rw [if_pos c5, hth, c12, if_pos rfl]) rfl)
    · refine x_tableIn (tgt := 67) (off := 55) dX12_mender_12 (by rw [c12]; decide) (by rw [c12]; decide) (by rw [c12]; rfl) (by decide) ?_
      refine x_aload_n dX12_mender_67 0 rfl ?_
      refine x_get (v := .ref (y + 6)) dX12_mender_68 fX12_25 (hM.1) rfl ?_
      refine x_iload_n dX12_mender_71 1 rfl ?_
      refine x_pc (pc' := 72) rfl ?_
      refine x_ialdN (n := 4) (f := blk r 9 4) dX12_mender_72 (hM.c6) (by omega) (by decide) ?_
      refine x_topi (y := r (9 + q)) (blk_at (by omega)) ?_
      exact x_iret dX12_mender_73 rfl (xRet_e (by unfold menderS; rw [if_pos c5, hth, c12, if_neg (by decide), if_pos rfl]) rfl)
    · refine x_tableIn (tgt := 74) (off := 62) dX12_mender_12 (by rw [c12]; decide) (by rw [c12]; decide) (by rw [c12]; rfl) (by decide) ?_
      refine x_aload_n dX12_mender_74 0 rfl ?_
      refine x_get (v := .ref (y + 7)) dX12_mender_75 fX12_28 (hM.1) rfl ?_
      refine x_iload_n dX12_mender_78 1 rfl ?_
      refine x_pc (pc' := 79) rfl ?_
      refine x_ialdN (n := 4) (f := blk r 13 4) dX12_mender_79 (hM.c7) (by omega) (by decide) ?_
      refine x_topi (y := r (13 + q)) (blk_at (by omega)) ?_
      exact x_iret dX12_mender_80 rfl (xRet_e (by unfold menderS; rw [if_pos c5, hth, c12, if_neg (by decide), if_neg (by decide), if_pos rfl]) rfl)
    · refine x_tableIn (tgt := 81) (off := 69) dX12_mender_12 (by rw [c12]; decide) (by rw [c12]; decide) (by rw [c12]; rfl) (by decide) ?_
      refine x_aload_n dX12_mender_81 0 rfl ?_
      refine x_get (v := .ref (y + 8)) dX12_mender_82 fX12_31 (hM.1) rfl ?_
      refine x_iload_n dX12_mender_85 1 rfl ?_
      refine x_pc (pc' := 86) rfl ?_
      refine x_ialdN (n := 4) (f := blk r 17 4) dX12_mender_86 (hM.c8) (by omega) (by decide) ?_
      refine x_topi (y := r (17 + q)) (blk_at (by omega)) ?_
      exact x_iret dX12_mender_87 rfl (xRet_e (by unfold menderS; rw [if_pos c5, hth, c12, if_neg (by decide), if_neg (by decide), if_neg (by decide), if_pos rfl]) rfl)
    · refine x_tableIn (tgt := 88) (off := 76) dX12_mender_12 (by rw [c12]; decide) (by rw [c12]; decide) (by rw [c12]; rfl) (by decide) ?_
      refine x_aload_n dX12_mender_88 0 rfl ?_
      refine x_get (v := .ref (y + 4)) dX12_mender_89 fX12_19 (hM.1) rfl ?_
      refine x_iconst dX12_mender_92 ki_4 ?_
      refine x_pc (pc' := 93) rfl ?_
      refine x_iload_n dX12_mender_93 1 rfl ?_
      refine x_imulN dX12_mender_94 ?_
      refine x_iload_n dX12_mender_95 2 rfl ?_
      refine x_topi (y := nI 4) c12 ?_
      refine x_iaddN dX12_mender_96 ?_
      refine x_iconst dX12_mender_97 ki_4 ?_
      refine x_isubN dX12_mender_98 (by omega) ?_
      refine x_topi (y := nI (q * 4 + 0)) (by rw [show ((4 * q) + 4) - 4 = q * 4 + 0 by omega]) ?_
      refine x_ialdN (n := 16) (f := fun j => skJ (hl 3 j)) dX12_mender_99 (hM.c4) (by omega) (by decide) ?_
      refine x_topi (y := skI (hl 3 (q * 4 + 0))) (skJ_I (hO.2.2.2.2.1 _ (by omega))) ?_
      exact x_iret dX12_mender_100 rfl (xRet_e (by unfold menderS; rw [if_pos c5, hth, c12, if_neg (by decide), if_neg (by decide), if_neg (by decide), if_neg (by decide), if_pos rfl]) rfl)
    · refine x_tableIn (tgt := 88) (off := 76) dX12_mender_12 (by rw [c12]; decide) (by rw [c12]; decide) (by rw [c12]; rfl) (by decide) ?_
      refine x_aload_n dX12_mender_88 0 rfl ?_
      refine x_get (v := .ref (y + 4)) dX12_mender_89 fX12_19 (hM.1) rfl ?_
      refine x_iconst dX12_mender_92 ki_4 ?_
      refine x_pc (pc' := 93) rfl ?_
      refine x_iload_n dX12_mender_93 1 rfl ?_
      refine x_imulN dX12_mender_94 ?_
      refine x_iload_n dX12_mender_95 2 rfl ?_
      refine x_topi (y := nI 5) c12 ?_
      refine x_iaddN dX12_mender_96 ?_
      refine x_iconst dX12_mender_97 ki_4 ?_
      refine x_isubN dX12_mender_98 (by omega) ?_
      refine x_topi (y := nI (q * 4 + 1)) (by rw [show ((4 * q) + 5) - 4 = q * 4 + 1 by omega]) ?_
      refine x_ialdN (n := 16) (f := fun j => skJ (hl 3 j)) dX12_mender_99 (hM.c4) (by omega) (by decide) ?_
      refine x_topi (y := skI (hl 3 (q * 4 + 1))) (skJ_I (hO.2.2.2.2.1 _ (by omega))) ?_
      exact x_iret dX12_mender_100 rfl (xRet_e (by unfold menderS; rw [if_pos c5, hth, c12, if_neg (by decide), if_neg (by decide), if_neg (by decide), if_neg (by decide), if_neg (by decide), if_pos rfl]) rfl)
    · refine x_tableIn (tgt := 88) (off := 76) dX12_mender_12 (by rw [c12]; decide) (by rw [c12]; decide) (by rw [c12]; rfl) (by decide) ?_
      refine x_aload_n dX12_mender_88 0 rfl ?_
      refine x_get (v := .ref (y + 4)) dX12_mender_89 fX12_19 (hM.1) rfl ?_
      refine x_iconst dX12_mender_92 ki_4 ?_
      refine x_pc (pc' := 93) rfl ?_
      refine x_iload_n dX12_mender_93 1 rfl ?_
      refine x_imulN dX12_mender_94 ?_
      refine x_iload_n dX12_mender_95 2 rfl ?_
      refine x_topi (y := nI 6) c12 ?_
      refine x_iaddN dX12_mender_96 ?_
      refine x_iconst dX12_mender_97 ki_4 ?_
      refine x_isubN dX12_mender_98 (by omega) ?_
      refine x_topi (y := nI (q * 4 + 2)) (by rw [show ((4 * q) + 6) - 4 = q * 4 + 2 by omega]) ?_
      refine x_ialdN (n := 16) (f := fun j => skJ (hl 3 j)) dX12_mender_99 (hM.c4) (by omega) (by decide) ?_
      refine x_topi (y := skI (hl 3 (q * 4 + 2))) (skJ_I (hO.2.2.2.2.1 _ (by omega))) ?_
      exact x_iret dX12_mender_100 rfl (xRet_e (by unfold menderS; rw [if_pos c5, hth, c12, if_neg (by decide), if_neg (by decide), if_neg (by decide), if_neg (by decide), if_neg (by decide), if_neg (by decide), if_pos rfl]) rfl)
    · refine x_tableIn (tgt := 88) (off := 76) dX12_mender_12 (by rw [c12]; decide) (by rw [c12]; decide) (by rw [c12]; rfl) (by decide) ?_
      refine x_aload_n dX12_mender_88 0 rfl ?_
      refine x_get (v := .ref (y + 4)) dX12_mender_89 fX12_19 (hM.1) rfl ?_
      refine x_iconst dX12_mender_92 ki_4 ?_
      refine x_pc (pc' := 93) rfl ?_
      refine x_iload_n dX12_mender_93 1 rfl ?_
      refine x_imulN dX12_mender_94 ?_
      refine x_iload_n dX12_mender_95 2 rfl ?_
      refine x_topi (y := nI 7) c12 ?_
      refine x_iaddN dX12_mender_96 ?_
      refine x_iconst dX12_mender_97 ki_4 ?_
      refine x_isubN dX12_mender_98 (by omega) ?_
      refine x_topi (y := nI (q * 4 + 3)) (by rw [show ((4 * q) + 7) - 4 = q * 4 + 3 by omega]) ?_
      refine x_ialdN (n := 16) (f := fun j => skJ (hl 3 j)) dX12_mender_99 (hM.c4) (by omega) (by decide) ?_
      refine x_topi (y := skI (hl 3 (q * 4 + 3))) (skJ_I (hO.2.2.2.2.1 _ (by omega))) ?_
      exact x_iret dX12_mender_100 rfl (xRet_e (by unfold menderS; rw [if_pos c5, hth, c12, if_neg (by decide), if_neg (by decide), if_neg (by decide), if_neg (by decide), if_neg (by decide), if_neg (by decide), if_neg (by decide), if_pos rfl]) rfl)
    · refine x_tableOut (tgt := 101) dX12_mender_12 (by omega) (by decide) ?_
      refine x_bipush dX12_mender_101 kb_m2 ?_
      exact x_iret dX12_mender_103 rfl (xRet_e (by unfold menderS; rw [if_pos c5, hth, if_neg (fun e => absurd (e ▸ c12) (by decide)), if_neg (fun e => absurd (e ▸ c12) (by decide)), if_neg (fun e => absurd (e ▸ c12) (by decide)), if_neg (fun e => absurd (e ▸ c12) (by decide)), if_neg (fun e => absurd (e ▸ c12) (by decide)), if_neg (fun e => absurd (e ▸ c12) (by decide)), if_neg (fun e => absurd (e ▸ c12) (by decide)), if_neg (fun e => absurd (e ▸ c12) (by decide))]) rfl)
  · refine x_bipush dX12_mender_8 kb_m2 ?_
    exact x_iret dX12_mender_10 rfl (xRet_e (by unfold menderS; rw [if_neg (by rw [c5]; decide)]) rfl)
theorem Md_sort {K : xG} {h y : Nat} {G0 G : xHp} {hl : xHl} {r : xRw} {sc : Nat × Nat × Int32} {A : Nat → Nat → Int32} {F : Nat → Int32} {wa sa : Nat → Int64} {v w : Int32} (hM : MW G0 G y hl r sc A F wa sa) (hO : HallOk hl) : xCall K mX12_sort 2 0 0 [.ref y, .int v, .int w] h G (xRet (some (.int (sortS hl r v w))) h G) := by
  refine x_entry (by decide) (ls := [(0, .ref y), (1, .int v), (2, .int w)]) rfl (Nat.le_of_ble_eq_true rfl) ?_
  have hB := hM.hB
  obtain ⟨o2, o3, o4, o5, o6, o7, o8, o9⟩ := id hO
  refine x_aload_n dX12_sort_0 0 rfl ?_
  refine x_iload_n dX12_sort_1 1 rfl ?_
  refine x_cV (N := mX12_isSort) (d' := 1) (mc := 0) (ms := 0) (cb := 0) (sb := 0) (As := [.int v]) (st := []) dX12_sort_2 mX12_isSort_v lX12_367 rfl rfl (hM.1) rfl (by decide) (Nat.le_of_ble_eq_true rfl) (Md_isSort hM) rfl (st1 := [.int (bI (inR v (hl 0 2)))]) rfl ?_
  refine x_ifB_eq (tgt := 18) dX12_sort_5 (by decide) (fun c5 => ?_) (fun c5 => ?_)
  · refine x_iconst dX12_sort_18 ki_m1 ?_
    refine x_goto (tgt := 41) dX12_sort_19 (by decide) ?_
    exact x_iret dX12_sort_41 rfl (xRet_e (by unfold sortS; rw [if_neg (fun e => absurd (c5.symm.trans e.1) (by decide))]) rfl)
  · have hc5 := c5
    obtain ⟨q, hq, hvq⟩ := inR_of c5
    subst hvq
    have hth := thN_nI (t := q) (by omega)
    refine x_iload_n dX12_sort_8 2 rfl ?_
    refine x_i2l dX12_sort_9 ?_
    refine x_lconst (v := 0) dX12_sort_10 rfl ?_
    refine x_lconst (v := 1) dX12_sort_11 rfl ?_
    refine x_cS (N := mX12_in) (d' := 0) (mc := 0) (ms := 0) (cb := 0) (sb := 0) (As := [.long w.toInt64, .long 0, .long 1]) (st := []) dX12_sort_12 mX12_in_s lX12_155 rfl (by decide) (Nat.le_of_ble_eq_true rfl) (Md_in) rfl (st1 := [.int (bI (decide (0 ≤ w.toInt64 ∧ w.toInt64 ≤ 1)))]) rfl ?_
    refine x_pc (pc' := 15) rfl ?_
    refine x_ifB_ne (tgt := 22) dX12_sort_15 (by decide) (fun c15 => ?_) (fun c15 => ?_)
    · refine x_iload_n dX12_sort_22 2 rfl ?_
      refine x_if_ne (tgt := 35) dX12_sort_23 (by decide) (fun c23 => ?_) (fun c23 => ?_)
      · refine x_aload_n dX12_sort_35 0 rfl ?_
        refine x_get (v := .ref (y + 3)) dX12_sort_36 fX12_16 (hM.1) rfl ?_
        refine x_iload_n dX12_sort_39 1 rfl ?_
        refine x_ialdN (n := 4) (f := blk r 1 4) dX12_sort_40 (hM.c3) (by omega) (by decide) ?_
        refine x_topi (y := r (1 + q)) (blk_at (by omega)) ?_
        exact x_iret dX12_sort_41 rfl (xRet_e (by unfold sortS; rw [if_pos ⟨hc5, (in_01 w).symm.trans c15⟩, if_neg c23, hth]) rfl)
      · refine x_aload_n dX12_sort_26 0 rfl ?_
        refine x_get (v := .ref (y + 2)) dX12_sort_27 fX12_13 (hM.1) rfl ?_
        refine x_iload_n dX12_sort_30 1 rfl ?_
        refine x_ialdN (n := 4) (f := nF (hl 1)) dX12_sort_31 (hM.c2) (by omega) (by decide) ?_
        refine x_goto (tgt := 41) dX12_sort_32 (by decide) ?_
        exact x_iret dX12_sort_41 rfl (xRet_e (by unfold sortS; rw [if_pos ⟨hc5, (in_01 w).symm.trans c15⟩, if_pos c23, hth]) rfl)
    · refine x_iconst dX12_sort_18 ki_m1 ?_
      refine x_goto (tgt := 41) dX12_sort_19 (by decide) ?_
      exact x_iret dX12_sort_41 rfl (xRet_e (by unfold sortS; rw [if_neg (fun e => absurd (((in_01 w).symm.trans c15).symm.trans e.2) (by decide))]) rfl)
theorem Md_count {K : xG} {h y : Nat} {G0 G : xHp} {hl : xHl} {r : xRw} {sc : Nat × Nat × Int32} {A : Nat → Nat → Int32} {F : Nat → Int32} {wa sa : Nat → Int64} {rc pm tn : Nat} {w : Int32} (hM : MW G0 G y hl r sc A F wa sa) (hO : HallOk hl) (h31 : F 31 = nI rc) (hpm : F 49 = nI pm) (h27 : F 27 = nI tn) : xCall K mX12_count 1 0 0 [.ref y, .int w] h G (xRet (some (.int (countS hl r rc sc.2.2 sc.1 pm sc.2.1 tn w))) h G) := by
  refine x_entry (by decide) (ls := [(0, .ref y), (1, .int w)]) rfl (Nat.le_of_ble_eq_true rfl) ?_
  have hB := hM.hB
  obtain ⟨o2, o3, o4, o5, o6, o7, o8, o9⟩ := id hO
  refine x_iload_n dX12_count_0 1 rfl ?_
  rcases xsw_0_17 w with c1 | c1 | c1 | c1 | c1 | c1 | c1 | c1 | c1 | c1 | c1 | c1 | c1 | c1 | c1 | c1 | c1 | c1
  · refine x_tableIn (tgt := 84) (off := 83) dX12_count_1 (by rw [c1]; decide) (by rw [c1]; decide) (by rw [c1]; rfl) (by decide) ?_
    refine x_aload_n dX12_count_84 0 rfl ?_
    refine x_get (v := .ref (y + 1)) dX12_count_85 fX12_9 (hM.1) rfl ?_
    refine x_iconst dX12_count_88 ki_0 ?_
    refine x_ialdN (n := 9) (f := scal hl r sc) dX12_count_89 (hM.c1) (by decide) (by decide) ?_
    refine x_topi (y := nI (hl 0 0)) rfl ?_
    exact x_iret dX12_count_90 rfl (xRet_e (by unfold countS; rw [c1, if_pos rfl]) rfl)
  · refine x_tableIn (tgt := 91) (off := 90) dX12_count_1 (by rw [c1]; decide) (by rw [c1]; decide) (by rw [c1]; rfl) (by decide) ?_
    refine x_aload_n dX12_count_91 0 rfl ?_
    refine x_get (v := .ref (y + 1)) dX12_count_92 fX12_9 (hM.1) rfl ?_
    refine x_iconst dX12_count_95 ki_1 ?_
    refine x_ialdN (n := 9) (f := scal hl r sc) dX12_count_96 (hM.c1) (by decide) (by decide) ?_
    refine x_topi (y := nI (hl 0 1)) rfl ?_
    exact x_iret dX12_count_97 rfl (xRet_e (by unfold countS; rw [c1, if_neg (by decide), if_pos rfl]) rfl)
  · refine x_tableIn (tgt := 98) (off := 97) dX12_count_1 (by rw [c1]; decide) (by rw [c1]; decide) (by rw [c1]; rfl) (by decide) ?_
    refine x_aload_n dX12_count_98 0 rfl ?_
    refine x_get (v := .ref (y + 1)) dX12_count_99 fX12_9 (hM.1) rfl ?_
    refine x_iconst dX12_count_102 ki_2 ?_
    refine x_ialdN (n := 9) (f := scal hl r sc) dX12_count_103 (hM.c1) (by decide) (by decide) ?_
    refine x_topi (y := nI (hl 0 2)) rfl ?_
    exact x_iret dX12_count_104 rfl (xRet_e (by unfold countS; rw [c1, if_neg (by decide), if_neg (by decide), if_pos rfl]) rfl)
  · refine x_tableIn (tgt := 105) (off := 104) dX12_count_1 (by rw [c1]; decide) (by rw [c1]; decide) (by rw [c1]; rfl) (by decide) ?_
    refine x_aload_n dX12_count_105 0 rfl ?_
    refine x_get (v := .ref (y + 1)) dX12_count_106 fX12_9 (hM.1) rfl ?_
    refine x_iconst dX12_count_109 ki_3 ?_
    refine x_ialdN (n := 9) (f := scal hl r sc) dX12_count_110 (hM.c1) (by decide) (by decide) ?_
    refine x_topi (y := nI (hl 0 3)) rfl ?_
    exact x_iret dX12_count_111 rfl (xRet_e (by unfold countS; rw [c1, if_neg (by decide), if_neg (by decide), if_neg (by decide), if_pos rfl]) rfl)
  · refine x_tableIn (tgt := 112) (off := 111) dX12_count_1 (by rw [c1]; decide) (by rw [c1]; decide) (by rw [c1]; rfl) (by decide) ?_
    refine x_aload_n dX12_count_112 0 rfl ?_
    refine x_get (v := .ref (y + 1)) dX12_count_113 fX12_9 (hM.1) rfl ?_
    refine x_iconst dX12_count_116 ki_4 ?_
    refine x_ialdN (n := 9) (f := scal hl r sc) dX12_count_117 (hM.c1) (by decide) (by decide) ?_
    refine x_topi (y := nI (hl 0 4)) rfl ?_
    exact x_iret dX12_count_118 rfl (xRet_e (by unfold countS; rw [c1, if_neg (by decide), if_neg (by decide), if_neg (by decide), if_neg (by decide), if_pos rfl]) rfl)
  · refine x_tableIn (tgt := 119) (off := 118) dX12_count_1 (by rw [c1]; decide) (by rw [c1]; decide) (by rw [c1]; rfl) (by decide) ?_
    refine x_aload_n dX12_count_119 0 rfl ?_
    refine x_get (v := .int (F 31)) dX12_count_120 fX12_340 (hM.1) rfl ?_
    exact x_iret dX12_count_123 rfl (xRet_e (by unfold countS; rw [c1, if_neg (by decide), if_neg (by decide), if_neg (by decide), if_neg (by decide), if_neg (by decide), if_pos rfl, h31]) rfl)
  · refine x_tableIn (tgt := 124) (off := 123) dX12_count_1 (by rw [c1]; decide) (by rw [c1]; decide) (by rw [c1]; rfl) (by decide) ?_
    refine x_aload_n dX12_count_124 0 rfl ?_
    refine x_get (v := .ref (y + 1)) dX12_count_125 fX12_9 (hM.1) rfl ?_
    refine x_bipush dX12_count_128 kb_8 ?_
    refine x_ialdN (n := 9) (f := scal hl r sc) dX12_count_130 (hM.c1) (by decide) (by decide) ?_
    refine x_topi (y := sc.2.2) rfl ?_
    exact x_iret dX12_count_131 rfl (xRet_e (by unfold countS; rw [c1, if_neg (by decide), if_neg (by decide), if_neg (by decide), if_neg (by decide), if_neg (by decide), if_neg (by decide), if_pos rfl]) rfl)
  · refine x_tableIn (tgt := 132) (off := 131) dX12_count_1 (by rw [c1]; decide) (by rw [c1]; decide) (by rw [c1]; rfl) (by decide) ?_
    refine x_aload_n dX12_count_132 0 rfl ?_
    refine x_get (v := .ref (y + 1)) dX12_count_133 fX12_9 (hM.1) rfl ?_
    refine x_iconst dX12_count_136 ki_5 ?_
    refine x_ialdN (n := 9) (f := scal hl r sc) dX12_count_137 (hM.c1) (by decide) (by decide) ?_
    refine x_topi (y := r 0) rfl ?_
    exact x_iret dX12_count_138 rfl (xRet_e (by unfold countS; rw [c1, if_neg (by decide), if_neg (by decide), if_neg (by decide), if_neg (by decide), if_neg (by decide), if_neg (by decide), if_neg (by decide), if_pos rfl]) rfl)
  · refine x_tableIn (tgt := 139) (off := 138) dX12_count_1 (by rw [c1]; decide) (by rw [c1]; decide) (by rw [c1]; rfl) (by decide) ?_
    refine x_aload_n dX12_count_139 0 rfl ?_
    refine x_iconst dX12_count_140 ki_1 ?_
    refine x_cV (N := mX12_thingsSo) (d' := 0) (mc := 0) (ms := 0) (cb := 0) (sb := 0) (As := [.int (nI 1)]) (st := []) dX12_count_141 mX12_thingsSo_v lX12_373 rfl rfl (hM.1) rfl (by decide) (Nat.le_of_ble_eq_true rfl) (Md_thingsSo hM o4) rfl (st1 := [.int (bitsOf hl r (nI 1))]) rfl ?_
    exact x_iret dX12_count_144 rfl (xRet_e (by unfold countS; rw [c1, if_neg (by decide), if_neg (by decide), if_neg (by decide), if_neg (by decide), if_neg (by decide), if_neg (by decide), if_neg (by decide), if_neg (by decide), if_pos rfl]) rfl)
  · refine x_tableIn (tgt := 145) (off := 144) dX12_count_1 (by rw [c1]; decide) (by rw [c1]; decide) (by rw [c1]; rfl) (by decide) ?_
    refine x_aload_n dX12_count_145 0 rfl ?_
    refine x_iconst dX12_count_146 ki_2 ?_
    refine x_cV (N := mX12_thingsSo) (d' := 0) (mc := 0) (ms := 0) (cb := 0) (sb := 0) (As := [.int (nI 2)]) (st := []) dX12_count_147 mX12_thingsSo_v lX12_373 rfl rfl (hM.1) rfl (by decide) (Nat.le_of_ble_eq_true rfl) (Md_thingsSo hM o4) rfl (st1 := [.int (bitsOf hl r (nI 2))]) rfl ?_
    exact x_iret dX12_count_150 rfl (xRet_e (by unfold countS; rw [c1, if_neg (by decide), if_neg (by decide), if_neg (by decide), if_neg (by decide), if_neg (by decide), if_neg (by decide), if_neg (by decide), if_neg (by decide), if_neg (by decide), if_pos rfl]) rfl)
  · refine x_tableIn (tgt := 151) (off := 150) dX12_count_1 (by rw [c1]; decide) (by rw [c1]; decide) (by rw [c1]; rfl) (by decide) ?_
    refine x_aload_n dX12_count_151 0 rfl ?_
    refine x_iconst dX12_count_152 ki_3 ?_
    refine x_cV (N := mX12_thingsSo) (d' := 0) (mc := 0) (ms := 0) (cb := 0) (sb := 0) (As := [.int (nI 3)]) (st := []) dX12_count_153 mX12_thingsSo_v lX12_373 rfl rfl (hM.1) rfl (by decide) (Nat.le_of_ble_eq_true rfl) (Md_thingsSo hM o4) rfl (st1 := [.int (bitsOf hl r (nI 3))]) rfl ?_
    exact x_iret dX12_count_156 rfl (xRet_e (by unfold countS; rw [c1, if_neg (by decide), if_neg (by decide), if_neg (by decide), if_neg (by decide), if_neg (by decide), if_neg (by decide), if_neg (by decide), if_neg (by decide), if_neg (by decide), if_neg (by decide), if_pos rfl]) rfl)
  · refine x_tableIn (tgt := 157) (off := 156) dX12_count_1 (by rw [c1]; decide) (by rw [c1]; decide) (by rw [c1]; rfl) (by decide) ?_
    refine x_aload_n dX12_count_157 0 rfl ?_
    refine x_iconst dX12_count_158 ki_4 ?_
    refine x_cV (N := mX12_thingsSo) (d' := 0) (mc := 0) (ms := 0) (cb := 0) (sb := 0) (As := [.int (nI 4)]) (st := []) dX12_count_159 mX12_thingsSo_v lX12_373 rfl rfl (hM.1) rfl (by decide) (Nat.le_of_ble_eq_true rfl) (Md_thingsSo hM o4) rfl (st1 := [.int (bitsOf hl r (nI 4))]) rfl ?_
    exact x_iret dX12_count_162 rfl (xRet_e (by unfold countS; rw [c1, if_neg (by decide), if_neg (by decide), if_neg (by decide), if_neg (by decide), if_neg (by decide), if_neg (by decide), if_neg (by decide), if_neg (by decide), if_neg (by decide), if_neg (by decide), if_neg (by decide), if_pos rfl]) rfl)
  · refine x_tableIn (tgt := 163) (off := 162) dX12_count_1 (by rw [c1]; decide) (by rw [c1]; decide) (by rw [c1]; rfl) (by decide) ?_
    refine x_aload_n dX12_count_163 0 rfl ?_
    refine x_cV (N := mX12_saved) (d' := 0) (mc := 0) (ms := 0) (cb := 0) (sb := 0) (As := []) (st := []) dX12_count_164 mX12_saved_v lX12_447 rfl rfl (hM.1) rfl (by decide) (Nat.le_of_ble_eq_true rfl) (Md_saved hM o4) rfl (st1 := [.int (savedS hl r)]) rfl ?_
    exact x_iret dX12_count_167 rfl (xRet_e (by unfold countS; rw [c1, if_neg (by decide), if_neg (by decide), if_neg (by decide), if_neg (by decide), if_neg (by decide), if_neg (by decide), if_neg (by decide), if_neg (by decide), if_neg (by decide), if_neg (by decide), if_neg (by decide), if_neg (by decide), if_pos rfl]) rfl)
  · refine x_tableIn (tgt := 168) (off := 167) dX12_count_1 (by rw [c1]; decide) (by rw [c1]; decide) (by rw [c1]; rfl) (by decide) ?_
    refine x_aload_n dX12_count_168 0 rfl ?_
    refine x_get (v := .ref (y + 1)) dX12_count_169 fX12_9 (hM.1) rfl ?_
    refine x_bipush dX12_count_172 kb_6 ?_
    refine x_ialdN (n := 9) (f := scal hl r sc) dX12_count_174 (hM.c1) (by decide) (by decide) ?_
    refine x_topi (y := nI sc.1) rfl ?_
    exact x_iret dX12_count_175 rfl (xRet_e (by unfold countS; rw [c1, if_neg (by decide), if_neg (by decide), if_neg (by decide), if_neg (by decide), if_neg (by decide), if_neg (by decide), if_neg (by decide), if_neg (by decide), if_neg (by decide), if_neg (by decide), if_neg (by decide), if_neg (by decide), if_neg (by decide), if_pos rfl]) rfl)
  · refine x_tableIn (tgt := 176) (off := 175) dX12_count_1 (by rw [c1]; decide) (by rw [c1]; decide) (by rw [c1]; rfl) (by decide) ?_
    refine x_aload_n dX12_count_176 0 rfl ?_
    refine x_get (v := .int (F 49)) dX12_count_177 fX12_327 (hM.1) rfl ?_
    exact x_iret dX12_count_180 rfl (xRet_e (by unfold countS; rw [c1, if_neg (by decide), if_neg (by decide), if_neg (by decide), if_neg (by decide), if_neg (by decide), if_neg (by decide), if_neg (by decide), if_neg (by decide), if_neg (by decide), if_neg (by decide), if_neg (by decide), if_neg (by decide), if_neg (by decide), if_neg (by decide), if_pos rfl, hpm]) rfl)
  · refine x_tableIn (tgt := 181) (off := 180) dX12_count_1 (by rw [c1]; decide) (by rw [c1]; decide) (by rw [c1]; rfl) (by decide) ?_
    refine x_aload_n dX12_count_181 0 rfl ?_
    refine x_get (v := .ref (y + 1)) dX12_count_182 fX12_9 (hM.1) rfl ?_
    refine x_bipush dX12_count_185 kb_7 ?_
    refine x_ialdN (n := 9) (f := scal hl r sc) dX12_count_187 (hM.c1) (by decide) (by decide) ?_
    refine x_topi (y := nI sc.2.1) rfl ?_
    exact x_iret dX12_count_188 rfl (xRet_e (by unfold countS; rw [c1, if_neg (by decide), if_neg (by decide), if_neg (by decide), if_neg (by decide), if_neg (by decide), if_neg (by decide), if_neg (by decide), if_neg (by decide), if_neg (by decide), if_neg (by decide), if_neg (by decide), if_neg (by decide), if_neg (by decide), if_neg (by decide), if_neg (by decide), if_pos rfl]) rfl)
  · refine x_tableIn (tgt := 189) (off := 188) dX12_count_1 (by rw [c1]; decide) (by rw [c1]; decide) (by rw [c1]; rfl) (by decide) ?_
    refine x_aload_n dX12_count_189 0 rfl ?_
    refine x_get (v := .int (F 27)) dX12_count_190 fX12_159 (hM.1) rfl ?_
    exact x_iret dX12_count_193 rfl (xRet_e (by unfold countS; rw [c1, if_neg (by decide), if_neg (by decide), if_neg (by decide), if_neg (by decide), if_neg (by decide), if_neg (by decide), if_neg (by decide), if_neg (by decide), if_neg (by decide), if_neg (by decide), if_neg (by decide), if_neg (by decide), if_neg (by decide), if_neg (by decide), if_neg (by decide), if_neg (by decide), if_pos rfl, h27]) rfl)
  · refine x_tableOut (tgt := 194) dX12_count_1 (by omega) (by decide) ?_
    refine x_iconst dX12_count_194 ki_m1 ?_
    exact x_iret dX12_count_195 rfl (xRet_e (by unfold countS; rw [if_neg (fun e => absurd (e ▸ c1) (by decide)), if_neg (fun e => absurd (e ▸ c1) (by decide)), if_neg (fun e => absurd (e ▸ c1) (by decide)), if_neg (fun e => absurd (e ▸ c1) (by decide)), if_neg (fun e => absurd (e ▸ c1) (by decide)), if_neg (fun e => absurd (e ▸ c1) (by decide)), if_neg (fun e => absurd (e ▸ c1) (by decide)), if_neg (fun e => absurd (e ▸ c1) (by decide)), if_neg (fun e => absurd (e ▸ c1) (by decide)), if_neg (fun e => absurd (e ▸ c1) (by decide)), if_neg (fun e => absurd (e ▸ c1) (by decide)), if_neg (fun e => absurd (e ▸ c1) (by decide)), if_neg (fun e => absurd (e ▸ c1) (by decide)), if_neg (fun e => absurd (e ▸ c1) (by decide)), if_neg (fun e => absurd (e ▸ c1) (by decide)), if_neg (fun e => absurd (e ▸ c1) (by decide)), if_neg (fun e => absurd (e ▸ c1) (by decide))]) rfl)
