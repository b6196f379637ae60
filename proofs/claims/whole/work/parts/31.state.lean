theorem St_keep {K : xG} {h b jd : Nat} {G : xHp} {c : xCo} {ru : Option Nat} (hS : StAt G b jd c ru) : xCall K mX10_keepForUndo 1 0 0 [.ref b] h G (stQ G h b jd (c.1, c.2.1, c.2.2.1, (pushL c.1.2 c.2.2.2.1, min (c.2.2.2.2 + 1) 20)) ru) := by
  refine x_entry (by decide) (ls := [(0, .ref b)]) rfl (Nat.le_of_ble_eq_true rfl) ?_
  obtain ⟨rows, nx, fi, fs, al, s1, s2, s3, s4, s5⟩ := hS
  have hr1 := s5.1
  have hr2 := s5.2.1
  refine x_aload_n dX10_keepForUndo_0 0 rfl ?_
  refine x_get dX10_keepForUndo_1 fX10_31 (s1) rfl ?_
  refine x_get dX10_keepForUndo_4 fX10_58 (s4.1) rfl ?_
  refine x_iconst dX10_keepForUndo_7 ki_0 ?_
  refine x_aload_n dX10_keepForUndo_8 0 rfl ?_
  refine x_get dX10_keepForUndo_9 fX10_24 (s1) rfl ?_
  refine x_aload_n dX10_keepForUndo_12 0 rfl ?_
  refine x_get dX10_keepForUndo_13 fX10_61 (s1) rfl ?_
  refine x_bipush dX10_keepForUndo_16 kb_35 ?_
  refine x_pc (pc' := 18) rfl ?_
  refine x_imulN dX10_keepForUndo_18 ?_
  refine x_bipush dX10_keepForUndo_19 kb_35 ?_
  refine x_copyN dX10_keepForUndo_21 lX10_64 (s4.2.2) (s3) (by omega) (by omega) (by decide) (by decide) xw_nat xw_nst xw_sys (by decide) (Nat.le_of_ble_eq_true rfl) ?_
  refine x_aload_n dX10_keepForUndo_24 0 rfl ?_
  refine x_aload_n dX10_keepForUndo_25 0 rfl ?_
  refine x_get dX10_keepForUndo_26 fX10_61 (xup_of (by omega) (s1)) rfl ?_
  refine x_iconst dX10_keepForUndo_29 ki_1 ?_
  refine x_iaddN dX10_keepForUndo_30 ?_
  refine x_bipush dX10_keepForUndo_31 kb_20 ?_
  refine x_iremN dX10_keepForUndo_33 (by omega) (by decide) (by decide) ?_
  refine x_pc (pc' := 34) rfl ?_
  refine x_put (fs' := [.ref (b + 7), .ref (b + 1), .int (bI c.2.2.1.1), .int c.2.2.1.2.1, .int (nI c.2.2.1.2.2), .ref (b + 6), .int (nI ((nx + 1) % 20)), .int (nI c.2.2.2.2)]) dX10_keepForUndo_34 fX10_61 (xup_of (by omega) (s1)) (Nat.le_of_ble_eq_true rfl) rfl rfl rfl ?_
  refine x_aload_n dX10_keepForUndo_37 0 rfl ?_
  refine x_aload_n dX10_keepForUndo_38 0 rfl ?_
  refine x_get dX10_keepForUndo_39 fX10_51 (xup_eq) rfl ?_
  refine x_iconst dX10_keepForUndo_42 ki_1 ?_
  refine x_iaddN dX10_keepForUndo_43 ?_
  refine x_bipush dX10_keepForUndo_44 kb_20 ?_
  refine x_mmin dX10_keepForUndo_46 lX10_70 xw_minS xw_mathI xw_minC (by decide) (Nat.le_of_ble_eq_true rfl) ?_
  refine x_topi (y := nI (min (c.2.2.2.2 + 1) 20)) (mnI_nI (by omega) (by decide)) ?_
  refine x_put (fs' := [.ref (b + 7), .ref (b + 1), .int (bI c.2.2.1.1), .int c.2.2.1.2.1, .int (nI c.2.2.1.2.2), .ref (b + 6), .int (nI ((nx + 1) % 20)), .int (nI (min (c.2.2.2.2 + 1) 20))]) dX10_keepForUndo_49 fX10_51 (xup_eq) (Nat.le_of_ble_eq_true rfl) rfl rfl rfl ?_
  refine x_geq xup_up ?_
  exact x_vret dX10_keepForUndo_52 rfl (xEx_i _ ⟨⟨_, _, fi, fs, al, xup_eq, (s2.off (by omega)).off (by omega), xup_of (by omega) (xup_eq), (s4.off (by omega)).off (by omega), rg_push s5⟩, ((Fr.rf).up1 (by omega) (by omega)).up1 (by omega) (by omega)⟩ rfl rfl rfl)
theorem St_undo {K : xG} {h b jd : Nat} {G : xHp} {c : xCo} {ru : Option Nat} (hS : StAt G b jd c ru) (h0 : 0 < c.2.2.2.2) : xCall K mX10_undoLast 1 0 0 [.ref b] h G (stQ G h b jd ((c.1.1, c.2.2.2.1 0), c.2.1, c.2.2.1, (popL c.2.2.2.1, c.2.2.2.2 - 1)) ru) := by
  refine x_entry (by decide) (ls := [(0, .ref b)]) rfl (Nat.le_of_ble_eq_true rfl) ?_
  obtain ⟨rows, nx, fi, fs, al, s1, s2, s3, s4, s5⟩ := hS
  have hr1 := s5.1
  have hr2 := s5.2.1
  refine x_aload_n dX10_undoLast_0 0 rfl ?_
  refine x_get dX10_undoLast_1 fX10_51 (s1) rfl ?_
  refine x_ifN_le (tgt := 57) dX10_undoLast_4 (by decide) (by omega) (fun c4 => ?_) (fun c4 => ?_)
  · exact absurd c4 (by omega)
  · refine x_aload_n dX10_undoLast_7 0 rfl ?_
    refine x_aload_n dX10_undoLast_8 0 rfl ?_
    refine x_get dX10_undoLast_9 fX10_61 (s1) rfl ?_
    refine x_bipush dX10_undoLast_12 kb_20 ?_
    refine x_iaddN dX10_undoLast_14 ?_
    refine x_iconst dX10_undoLast_15 ki_1 ?_
    refine x_pc (pc' := 16) rfl ?_
    refine x_isubN dX10_undoLast_16 (by omega) ?_
    refine x_bipush dX10_undoLast_17 kb_20 ?_
    refine x_iremN dX10_undoLast_19 (by omega) (by decide) (by decide) ?_
    refine x_put (fs' := [.ref (b + 7), .ref (b + 1), .int (bI c.2.2.1.1), .int c.2.2.1.2.1, .int (nI c.2.2.1.2.2), .ref (b + 6), .int (nI (((nx + 20) - 1) % 20)), .int (nI c.2.2.2.2)]) dX10_undoLast_20 fX10_61 (s1) (Nat.le_of_ble_eq_true rfl) rfl rfl rfl ?_
    refine x_aload_n dX10_undoLast_23 0 rfl ?_
    refine x_dup dX10_undoLast_24 rfl ?_
    refine x_get dX10_undoLast_25 fX10_51 (xup_eq) rfl ?_
    refine x_iconst dX10_undoLast_28 ki_1 ?_
    refine x_isubN dX10_undoLast_29 (by omega) ?_
    refine x_put (fs' := [.ref (b + 7), .ref (b + 1), .int (bI c.2.2.1.1), .int c.2.2.1.2.1, .int (nI c.2.2.1.2.2), .ref (b + 6), .int (nI (((nx + 20) - 1) % 20)), .int (nI (c.2.2.2.2 - 1))]) dX10_undoLast_30 fX10_51 (xup_eq) (Nat.le_of_ble_eq_true rfl) rfl rfl rfl ?_
    refine x_geq xup_up ?_
    refine x_pc (pc' := 33) rfl ?_
    refine x_aload_n dX10_undoLast_33 0 rfl ?_
    refine x_get dX10_undoLast_34 fX10_24 (xup_eq) rfl ?_
    refine x_aload_n dX10_undoLast_37 0 rfl ?_
    refine x_get dX10_undoLast_38 fX10_61 (xup_eq) rfl ?_
    refine x_bipush dX10_undoLast_41 kb_35 ?_
    refine x_imulN dX10_undoLast_43 ?_
    refine x_aload_n dX10_undoLast_44 0 rfl ?_
    refine x_get dX10_undoLast_45 fX10_31 (xup_eq) rfl ?_
    refine x_get dX10_undoLast_48 fX10_58 (xup_of (by omega) (s4.1)) rfl ?_
    refine x_iconst dX10_undoLast_51 ki_0 ?_
    refine x_pc (pc' := 52) rfl ?_
    refine x_bipush dX10_undoLast_52 kb_35 ?_
    refine x_copyN dX10_undoLast_54 lX10_64 (xup_of (by omega) (s3)) (xup_of (by omega) (s4.2.2)) (by omega) (by omega) (by decide) (by decide) xw_nat xw_nst xw_sys (by decide) (Nat.le_of_ble_eq_true rfl) ?_
    refine x_acong (g := c.2.2.2.1 0) (rg_top s5 h0) ?_
    exact x_vret dX10_undoLast_57 rfl (xEx_i _ ⟨⟨rows, _, fi, fs, al, xup_of (by omega) (xup_eq), (s2.off (by omega)).off (by omega), xup_of (by omega) (xup_of (by omega) (s3)), ((s4.off (by omega)).row _), rg_pop s5 h0⟩, ((Fr.rf).up1 (by omega) (by omega)).up1 (by omega) (by omega)⟩ rfl rfl rfl)
theorem St_open {K : xG} {h b jd : Nat} {G : xHp} {c : xCo} {ru : Option Nat} {a : Nat} {hk : xHl} (hS : StAt G b jd c ru) (hA : HallAt G a hk) (hne : a + 8 ≤ b ∨ b + 17 ≤ a) : xCall K mX10_open 2 0 0 [.ref b, .ref a] h G (stQ G h b jd ((hk, clearR hk), (c.2.1.1, 0), (true, c.2.2.1.2), (c.2.2.2.1, 0)) ru) := by
  refine x_entry (by decide) (ls := [(0, .ref b), (1, .ref a)]) rfl (Nat.le_of_ble_eq_true rfl) ?_
  obtain ⟨rows, nx, fi, fs, al, s1, s2, s3, s4, s5⟩ := hS
  refine x_aload_n dX10_open_0 0 rfl ?_
  refine x_get dX10_open_1 fX10_31 (s1) rfl ?_
  refine x_get dX10_open_4 fX10_35 (s4.1) rfl ?_
  refine x_aload_n dX10_open_7 1 rfl ?_
  refine x_cVe (N := mX3_copy) (d' := 1) (mc := 0) (ms := 0) (cb := 0) (sb := 0) (As := [.ref a]) (st := []) dX10_open_8 mX3_copy_v lX10_39 rfl rfl (s4.2.1.1) rfl (by decide) (Nat.le_of_ble_eq_true rfl) (Hall_copy s4.2.1 hA (by omega)) rfl (sf := fun G1 => []) (fun _ => rfl) (fun G1 hq1 => ?_)
  obtain ⟨w1, w2⟩ := hq1
  have t4 : DayAt G1 (b + 7) hk c.1.2 jd ru := ⟨(w2 _ (by omega)).trans s4.1, w1, (w2 _ (by omega)).trans s4.2.2⟩
  have t1 := (w2 b (by omega)).trans s1
  have t2 := s2.fr (fun a h1 h2 => w2 a (by omega))
  have t3 := (w2 (b + 6) (by omega)).trans s3
  refine x_aload_n dX10_open_11 0 rfl ?_
  refine x_get dX10_open_12 fX10_31 (t1) rfl ?_
  refine x_cV (N := mX2_clear) (d' := 1) (mc := 0) (ms := 0) (cb := 0) (sb := 0) (As := []) (st := []) dX10_open_15 mX2_clear_v lX10_45 rfl rfl (t4.1) rfl (by decide) (Nat.le_of_ble_eq_true rfl) (Day_clear t4) rfl (st1 := []) rfl ?_
  refine x_aload_n dX10_open_18 0 rfl ?_
  refine x_pc (pc' := 19) rfl ?_
  refine x_get dX10_open_19 fX10_12 (xup_of (by omega) (t1)) rfl ?_
  refine x_iconst dX10_open_22 ki_0 ?_
  refine x_put (fs' := [.ref (b + 2), .ref (b + 3), .ref (b + 4), .int (nI 0), .int (nI fi), .int fs, .ref (b + 5)]) dX10_open_23 fX10_48 (xup_of (by omega) (t2.1)) (Nat.le_of_ble_eq_true rfl) rfl rfl rfl ?_
  refine x_aload_n dX10_open_26 0 rfl ?_
  refine x_iconst dX10_open_27 ki_0 ?_
  refine x_put (fs' := [.ref (b + 7), .ref (b + 1), .int (bI c.2.2.1.1), .int c.2.2.1.2.1, .int (nI c.2.2.1.2.2), .ref (b + 6), .int (nI nx), .int (nI 0)]) dX10_open_28 fX10_51 (xup_of (by omega) (xup_of (by omega) (t1))) (Nat.le_of_ble_eq_true rfl) rfl rfl rfl ?_
  refine x_aload_n dX10_open_31 0 rfl ?_
  refine x_iconst dX10_open_32 ki_1 ?_
  refine x_put (fs' := [.ref (b + 7), .ref (b + 1), .int (nI 1), .int c.2.2.1.2.1, .int (nI c.2.2.1.2.2), .ref (b + 6), .int (nI nx), .int (nI 0)]) dX10_open_33 fX10_54 (xup_eq) (Nat.le_of_ble_eq_true rfl) rfl (by first | rfl | decide | exact bI_nar _) (by first | rfl | decide | exact bI_fit _) ?_
  refine x_geq xup_up ?_
  exact x_vret dX10_open_36 rfl (xEx_i _ ⟨⟨rows, nx, fi, fs, al, xup_eq, (((t2.off (by omega)).obj 0 fi fs).off (by omega)), xup_of (by omega) (xup_of (by omega) (xup_of (by omega) (t3))), (((t4.row _).off (by omega)).off (by omega)), rg_mono s5⟩, (((Fr.wide w2 (by omega) (by omega)).up1 (by omega) (by omega)).up1 (by omega) (by omega)).up1 (by omega) (by omega)⟩ rfl rfl rfl)
theorem St_copy {K : xG} {h b jd : Nat} {G : xHp} {c : xCo} {ru : Option Nat} {a ja : Nat} {k : xCo} {rk : Option Nat} (hS : StAt G b jd c ru) (hA : StAt G a ja k rk) (hne : a + 17 ≤ b ∨ b + 17 ≤ a) : xCall K mX10_copy 3 0 0 [.ref b, .ref a] h G (stQ G h b jd k rk) := by
  refine x_entry (by decide) (ls := [(0, .ref b), (1, .ref a)]) rfl (Nat.le_of_ble_eq_true rfl) ?_
  obtain ⟨rows, nx, fi, fs, al, s1, s2, s3, s4, s5⟩ := hS
  obtain ⟨rowsa, nxa, fia, fsa, ala, s1a, s2a, s3a, s4a, s5a⟩ := hA
  refine x_aload_n dX10_copy_0 0 rfl ?_
  refine x_get dX10_copy_1 fX10_31 (s1) rfl ?_
  refine x_aload_n dX10_copy_4 1 rfl ?_
  refine x_get dX10_copy_5 fX10_31 (s1a) rfl ?_
  refine x_cVe (N := mX2_copy) (d' := 2) (mc := 0) (ms := 0) (cb := 0) (sb := 0) (As := [.ref (a + 7)]) (st := []) dX10_copy_8 mX2_copy_v lX10_76 rfl rfl (s4.1) rfl (by decide) (Nat.le_of_ble_eq_true rfl) (Day_copy s4 s4a (by omega)) rfl (sf := fun G1 => []) (fun _ => rfl) (fun G1 hq1 => ?_)
  obtain ⟨w1, w2⟩ := hq1
  have t1 := (w2 b (by omega)).trans s1
  have t2 := s2.fr (fun a h1 h2 => w2 a (by omega))
  have t3 := (w2 (b + 6) (by omega)).trans s3
  have t1a := (w2 a (by omega)).trans s1a
  have t2a := s2a.fr (fun c h1 h2 => w2 c (by omega))
  have t3a := (w2 (a + 6) (by omega)).trans s3a
  refine x_aload_n dX10_copy_11 0 rfl ?_
  refine x_get dX10_copy_12 fX10_12 (t1) rfl ?_
  refine x_aload_n dX10_copy_15 1 rfl ?_
  refine x_get dX10_copy_16 fX10_12 (t1a) rfl ?_
  refine x_pc (pc' := 19) rfl ?_
  refine x_cVe (N := mX1_copy) (d' := 1) (mc := 0) (ms := 0) (cb := 0) (sb := 0) (As := [.ref (a + 1)]) (st := []) dX10_copy_19 mX1_copy_v lX10_79 rfl rfl (t2.1) rfl (by decide) (Nat.le_of_ble_eq_true rfl) (Books_copy t2 t2a (by omega)) rfl (sf := fun G2 => []) (fun _ => rfl) (fun G2 hq2 => ?_)
  obtain ⟨w3, w4⟩ := hq2
  have u1 := (w4 b (by omega)).trans t1
  have u3 := (w4 (b + 6) (by omega)).trans t3
  have u4 := w1.fr (fun c h1 h2 => w4 c (by omega))
  have u1a := (w4 a (by omega)).trans t1a
  have u3a := (w4 (a + 6) (by omega)).trans t3a
  refine x_aload_n dX10_copy_22 0 rfl ?_
  refine x_aload_n dX10_copy_23 1 rfl ?_
  refine x_get dX10_copy_24 fX10_54 (u1a) rfl ?_
  refine x_put (fs' := [.ref (b + 7), .ref (b + 1), .int (bI k.2.2.1.1), .int c.2.2.1.2.1, .int (nI c.2.2.1.2.2), .ref (b + 6), .int (nI nx), .int (nI c.2.2.2.2)]) dX10_copy_27 fX10_54 (u1) (Nat.le_of_ble_eq_true rfl) rfl (by first | rfl | decide | exact bI_nar _) (by first | rfl | decide | exact bI_fit _) ?_
  refine x_aload_n dX10_copy_30 0 rfl ?_
  refine x_aload_n dX10_copy_31 1 rfl ?_
  refine x_get dX10_copy_32 fX10_18 (xup_of (by omega) (u1a)) rfl ?_
  refine x_put (fs' := [.ref (b + 7), .ref (b + 1), .int (bI k.2.2.1.1), .int k.2.2.1.2.1, .int (nI c.2.2.1.2.2), .ref (b + 6), .int (nI nx), .int (nI c.2.2.2.2)]) dX10_copy_35 fX10_18 (xup_eq) (Nat.le_of_ble_eq_true rfl) rfl rfl rfl ?_
  refine x_geq xup_up ?_
  refine x_aload_n dX10_copy_38 0 rfl ?_
  refine x_pc (pc' := 39) rfl ?_
  refine x_aload_n dX10_copy_39 1 rfl ?_
  refine x_get dX10_copy_40 fX10_82 (xup_of (by omega) (u1a)) rfl ?_
  refine x_put (fs' := [.ref (b + 7), .ref (b + 1), .int (bI k.2.2.1.1), .int k.2.2.1.2.1, .int (nI k.2.2.1.2.2), .ref (b + 6), .int (nI nx), .int (nI c.2.2.2.2)]) dX10_copy_43 fX10_82 (xup_eq) (Nat.le_of_ble_eq_true rfl) rfl rfl rfl ?_
  refine x_geq xup_up ?_
  refine x_aload_n dX10_copy_46 1 rfl ?_
  refine x_get dX10_copy_47 fX10_24 (xup_of (by omega) (u1a)) rfl ?_
  refine x_iconst dX10_copy_50 ki_0 ?_
  refine x_aload_n dX10_copy_51 0 rfl ?_
  refine x_get dX10_copy_52 fX10_24 (xup_eq) rfl ?_
  refine x_iconst dX10_copy_55 ki_0 ?_
  refine x_sipush dX10_copy_56 ks_700 ?_
  refine x_pc (pc' := 59) rfl ?_
  refine x_copyF dX10_copy_59 lX10_64 (xup_of (by omega) (u3a)) (xup_of (by omega) (u3)) (by decide) xw_nat xw_nst xw_sys (by decide) (Nat.le_of_ble_eq_true rfl) ?_
  refine x_aload_n dX10_copy_62 0 rfl ?_
  refine x_aload_n dX10_copy_63 1 rfl ?_
  refine x_get dX10_copy_64 fX10_61 (xup_of (by omega) (xup_of (by omega) (u1a))) rfl ?_
  refine x_put (fs' := [.ref (b + 7), .ref (b + 1), .int (bI k.2.2.1.1), .int k.2.2.1.2.1, .int (nI k.2.2.1.2.2), .ref (b + 6), .int (nI nxa), .int (nI c.2.2.2.2)]) dX10_copy_67 fX10_61 (xup_of (by omega) (xup_eq)) (Nat.le_of_ble_eq_true rfl) rfl rfl rfl ?_
  refine x_geq (xup_dig (by omega)) ?_
  refine x_aload_n dX10_copy_70 0 rfl ?_
  refine x_aload_n dX10_copy_71 1 rfl ?_
  refine x_get dX10_copy_72 fX10_51 (xup_of (by omega) (xup_of (by omega) (u1a))) rfl ?_
  refine x_put (fs' := [.ref (b + 7), .ref (b + 1), .int (bI k.2.2.1.1), .int k.2.2.1.2.1, .int (nI k.2.2.1.2.2), .ref (b + 6), .int (nI nxa), .int (nI k.2.2.2.2)]) dX10_copy_75 fX10_51 (xup_of (by omega) (xup_eq)) (Nat.le_of_ble_eq_true rfl) rfl rfl rfl ?_
  refine x_geq (xup_dig (by omega)) ?_
  exact x_vret dX10_copy_78 rfl (xEx_i _ ⟨⟨rowsa, nxa, fi, fs, al, xup_of (by omega) (xup_eq), ((w3.off (by omega)).off (by omega)), xup_eq, ((u4.off (by omega)).off (by omega)), s5a⟩, ((((Fr.wide w2 (by omega) (by omega)).tr (Fr.wide w4 (by omega) (by omega))).up1 (by omega) (by omega)).up1 (by omega) (by omega))⟩ rfl rfl rfl)
theorem St_init {K : xG} {b jd : Nat} {G : xHp} (hb : G b = some (eO 10 [.null, .null, .int 0, .int 0, .int 0, .null, .int 0, .int 0])) : xCall K mX10_init 3 16 879 [.ref b, .ref jd] (b + 1) G (xEx (fun G' => StAt G' b jd (((fun _ _ => 0), (fun _ => 0)), ((fun _ _ => 0), 0), (false, -1, 0), ((fun _ _ => 0), 0)) none ∧ Fr G G' b 17) (fun _ => none) (fun _ => b + 17) (fun G' => G')) := by
  refine x_entry (by decide) (ls := [(0, .ref b), (1, .ref jd)]) rfl (Nat.le_of_ble_eq_true rfl) ?_
  refine x_aload_n dX10_init_0 0 rfl ?_
  refine x_objInit dX10_init_1 lX10_3 xw_objI xw_objC (by decide) (Nat.le_of_ble_eq_true rfl) ?_
  refine x_aload_n dX10_init_4 0 rfl ?_
  refine x_new (cb := 15) (sb := 872) (fs := [.null, .null, .null, .int 0, .int 0, .int 0, .null]) dX10_init_5 xcl_X1 kX10_9 xin_X1 xii_X1 xdf_X1 ?_
  refine x_hh (h' := b + 2) rfl ?_
  refine x_dup dX10_init_8 rfl ?_
  refine x_cINe (N := mX1_init) (d' := 1) (mc := 4) (ms := 65) (cb := 11) (sb := 807) (As := []) (st := [.ref (b + 1), .ref b]) dX10_init_9 mX1_init_i lX10_11 rfl (by decide) (Nat.le_of_ble_eq_true rfl) (Books_init (xup_eq)) rfl (sf := fun G1 => [.ref (b + 1), .ref b]) (fun _ => rfl) (fun G1 hq1 => ?_)
  obtain ⟨w1, w2⟩ := hq1
  have t1 : G1 b = some (eO 10 [.null, .null, .int 0, .int 0, .int 0, .null, .int 0, .int 0]) := (w2 b (by omega)).trans (xup_of (by omega) (hb))
  refine x_hh (h' := b + 6) rfl ?_
  refine x_putF (fs' := [.null, .ref (b + 1), .int 0, .int 0, .int 0, .null, .int 0, .int 0]) dX10_init_12 fX10_12 rfl rfl (t1) (Nat.le_of_ble_eq_true rfl) rfl rfl rfl ?_
  refine x_aload_n dX10_init_15 0 rfl ?_
  refine x_iconst dX10_init_16 ki_m1 ?_
  refine x_pc (pc' := 17) rfl ?_
  refine x_put (fs' := [.null, .ref (b + 1), .int 0, .int (-1), .int 0, .null, .int 0, .int 0]) dX10_init_17 fX10_18 (xup_eq) (Nat.le_of_ble_eq_true rfl) rfl rfl rfl ?_
  refine x_geq xup_up ?_
  refine x_aload_n dX10_init_20 0 rfl ?_
  refine x_sipush dX10_init_21 ks_700 ?_
  refine x_newa (cb := 10) (sb := 107) (t := 0) (N0 := 700) dX10_init_24 rfl xac_int (fun _ => rfl) (fun _ _ => rfl) rfl (by decide) (by decide) (by decide) ?_
  refine x_hh (h' := b + 7) rfl ?_
  refine x_putF (fs' := [.null, .ref (b + 1), .int 0, .int (-1), .int 0, .ref (b + 6), .int 0, .int 0]) dX10_init_26 fX10_24 rfl rfl (xup_of (by omega) (xup_eq)) (Nat.le_of_ble_eq_true rfl) rfl rfl rfl ?_
  refine x_geq (xup_dig (by omega)) ?_
  refine x_aload_n dX10_init_29 0 rfl ?_
  refine x_new (cb := 9) (sb := 103) (fs := [.null, .null, .null, .null]) dX10_init_30 xcl_X2 kX10_22 xin_X2 xii_X2 xdf_X2 ?_
  refine x_hh (h' := b + 8) rfl ?_
  refine x_dup dX10_init_33 rfl ?_
  refine x_aload_n dX10_init_34 1 rfl ?_
  refine x_cIe (N := mX2_init) (d' := 2) (mc := 9) (ms := 99) (cb := 0) (sb := 4) (As := [.ref jd]) (st := [.ref (b + 7), .ref b]) dX10_init_35 mX2_init_i lX10_28 rfl (by decide) (Nat.le_of_ble_eq_true rfl) (Day_init (xup_eq)) rfl (sf := fun G2 => [.ref (b + 7), .ref b]) (fun _ => rfl) (fun G2 hq2 => ?_)
  obtain ⟨w3, w4⟩ := hq2
  have u0 : G2 (b) = some (eO 10 [.null, .ref (b + 1), .int 0, .int (-1), .int 0, .ref (b + 6), .int 0, .int 0]) := (w4 _ (by omega)).trans (xup_of (by omega) (xup_of (by omega) (xup_eq)))
  have u1 : G2 (b + 6) = some (eI 0 700 (fun _ => 0)) := (w4 _ (by omega)).trans (xup_of (by omega) (xup_eq))
  have u3 := BooksAt.fr (G' := G2) ((((w1).off (by omega)).off (by omega)).off (by omega)) (fun c h1 h2 => w4 c (by omega))
  skip
  refine x_hh (h' := b + 17) rfl ?_
  refine x_pc (pc' := 38) rfl ?_
  refine x_putF (fs' := [.ref (b + 7), .ref (b + 1), .int 0, .int (-1), .int 0, .ref (b + 6), .int 0, .int 0]) dX10_init_38 fX10_31 rfl rfl (u0) (Nat.le_of_ble_eq_true rfl) rfl rfl rfl ?_
  exact x_vret dX10_init_41 rfl (xEx_i _ ⟨⟨(fun _ => 0), 0, 0, 0, (fun _ => 0), xup_eq, u3.off (by omega), xup_of (by omega) (u1), w3.off (by omega), ⟨by decide, by decide, fun i hi => absurd hi (by simp)⟩⟩, by intro q hq; rw [xup_ne (by omega), w4 q (by omega), xup_ne (by omega), xup_ne (by omega), xup_ne (by omega), w2 q (by omega), xup_ne (by omega)]⟩ rfl rfl rfl)
