theorem Cls_sw_in {K : xG} {h x tn rc : Nat} {G : xHp} {hl : xHl} {r : xRw} {ru : Option Nat} {w : Int32} {f : Nat} {B0 : Int32 × Int32 × Int32} {Q : xPost} (m1 : G x = some (clsO x tn rc)) (hN : DayAt G (x + 26) hl r (x + 16) ru) (hO : HallOk hl) (hrow : RowOk hl r) (hf : f < hl 0 3) (next : xV K mX11_swap 2 0 0 h G 104 [(5, .int (nI f)), (4, .int (swI hl r f (hl 0 3 - (f + 1)) B0).2.2), (3, .int (swI hl r f (hl 0 3 - (f + 1)) B0).2.1), (2, .int (swI hl r f (hl 0 3 - (f + 1)) B0).1), (0, .ref x), (1, .int w)] [] Q) : ∀ (k j : Nat), j + k = hl 0 3 - (f + 1) → xV K mX11_swap 2 0 0 h G 54 [(6, .int (nI (f + 1 + j))), (5, .int (nI f)), (4, .int ((swI hl r f j B0).2.2)), (3, .int ((swI hl r f j B0).2.1)), (2, .int ((swI hl r f j B0).1)), (0, .ref x), (1, .int w)] [] (Q) := by
  have hB := hN.2.1.2.2.2.2.2.2.2.2
  obtain ⟨o2, o3, o4, -⟩ := id hO
  intro k
  induction k with
  | zero =>
    intro j hj
    have hj0 : j = hl 0 3 - (f + 1) := by omega
    subst hj0
    refine x_iload dX11_swap_54 0 rfl ?_
    refine x_aload_n dX11_swap_56 5 rfl ?_
    refine x_get dX11_swap_57 fX11_55 (m1) rfl ?_
    refine x_get dX11_swap_60 fX11_89 (hN.1) rfl ?_
    refine x_get dX11_swap_63 fX11_225 (hN.2.1.1) rfl ?_
    refine x_icmpN_ge (tgt := 104) dX11_swap_66 (by decide) (by have := hB 0 3; omega) (by have := hB 0 3; omega) (fun c66 => ?_) (fun c66 => ?_)
    · refine x_perm (ls' := [(5, .int (nI f)), (4, .int ((swI hl r f (hl 0 3 - (f + 1)) B0).2.2)), (3, .int ((swI hl r f (hl 0 3 - (f + 1)) B0).2.1)), (2, .int ((swI hl r f (hl 0 3 - (f + 1)) B0).1)), (0, .ref x), (1, .int w)]) [1, 2, 3, 4, 5, 6] rfl ?_
      exact next
    · exact absurd c66 (by omega)
  | succ k ih =>
    intro j hj
    refine x_iload dX11_swap_54 0 rfl ?_
    refine x_aload_n dX11_swap_56 5 rfl ?_
    refine x_get dX11_swap_57 fX11_55 (m1) rfl ?_
    refine x_get dX11_swap_60 fX11_89 (hN.1) rfl ?_
    refine x_get dX11_swap_63 fX11_225 (hN.2.1.1) rfl ?_
    refine x_icmpN_ge (tgt := 104) dX11_swap_66 (by decide) (by have := hB 0 3; omega) (by have := hB 0 3; omega) (fun c66 => ?_) (fun c66 => ?_)
    · exact absurd c66 (by omega)
    · refine x_aload_n dX11_swap_69 5 rfl ?_
      refine x_get dX11_swap_70 fX11_55 (m1) rfl ?_
      refine x_iload dX11_swap_73 1 rfl ?_
      refine x_pc (pc' := 75) rfl ?_
      refine x_iload dX11_swap_75 0 rfl ?_
      refine x_cV (N := mX2_lessBySwap) (d' := 1) (mc := 0) (ms := 0) (cb := 0) (sb := 0) (As := [.int (nI f), .int (nI (f + 1 + j))]) (st := []) dX11_swap_77 mX2_lessBySwap_v lX11_228 rfl rfl (hN.1) rfl (by decide) (Nat.le_of_ble_eq_true rfl) (Day_lessBySwap hN hO hrow hf (by omega)) rfl (st1 := [.int (lessS hl r f (f + 1 + j))]) rfl ?_
      refine x_istore (ls' := [(7, .int (lessS hl r f (f + 1 + j))), (6, .int (nI (f + 1 + j))), (5, .int (nI f)), (4, .int ((swI hl r f j B0).2.2)), (3, .int ((swI hl r f j B0).2.1)), (2, .int ((swI hl r f j B0).1)), (0, .ref x), (1, .int w)]) dX11_swap_80 (by decide) rfl ?_
      refine x_iload dX11_swap_82 0 rfl ?_
      refine x_iload_n dX11_swap_84 5 rfl ?_
      refine x_icmp_le (x := lessS hl r f (f + 1 + j)) (y := (swI hl r f j B0).1) (tgt := 98) dX11_swap_85 (by decide) (fun c85 => ?_) (fun c85 => ?_)
      · refine x_iinc (v := nI (f + 1 + j + 1)) (ls' := [(6, .int (nI (f + 1 + j + 1))), (7, .int (lessS hl r f (f + 1 + j))), (5, .int (nI f)), (4, .int ((swI hl r f j B0).2.2)), (3, .int ((swI hl r f j B0).2.1)), (2, .int ((swI hl r f j B0).1)), (0, .ref x), (1, .int w)]) dX11_swap_98 1 rfl (nIs _) (by decide) rfl ?_
        refine x_goto (tgt := 54) dX11_swap_101 (by decide) ?_
        refine x_perm (ls' := [(6, .int (nI (f + 1 + j + 1))), (5, .int (nI f)), (4, .int ((swI hl r f j B0).2.2)), (3, .int ((swI hl r f j B0).2.1)), (2, .int ((swI hl r f j B0).1)), (0, .ref x), (1, .int w)]) [0, 2, 3, 4, 5, 6, 7] rfl ?_
        have hsw : swI hl r f (j + 1) B0 = _ := (swI_s hl r f j B0).trans (if_neg (Int32.not_lt.mpr c85))
        refine x_leq (ls' := [(6, .int (nI (f + 1 + (j + 1)))), (5, .int (nI f)), (4, .int (swI hl r f (j + 1) B0).2.2), (3, .int (swI hl r f (j + 1) B0).2.1), (2, .int (swI hl r f (j + 1) B0).1), (0, .ref x), (1, .int w)]) (by rw [hsw]; rfl) ?_
        exact ih (j + 1) (by omega)
      · refine x_iload dX11_swap_88 0 rfl ?_
        refine x_istore_n (ls' := [(2, .int (lessS hl r f (f + 1 + j))), (7, .int (lessS hl r f (f + 1 + j))), (6, .int (nI (f + 1 + j))), (5, .int (nI f)), (4, .int ((swI hl r f j B0).2.2)), (3, .int ((swI hl r f j B0).2.1)), (0, .ref x), (1, .int w)]) dX11_swap_90 (by decide) rfl ?_
        refine x_iload dX11_swap_91 3 rfl ?_
        refine x_istore_n (ls' := [(3, .int (nI f)), (2, .int (lessS hl r f (f + 1 + j))), (7, .int (lessS hl r f (f + 1 + j))), (6, .int (nI (f + 1 + j))), (5, .int (nI f)), (4, .int ((swI hl r f j B0).2.2)), (0, .ref x), (1, .int w)]) dX11_swap_93 (by decide) rfl ?_
        refine x_pc (pc' := 94) rfl ?_
        refine x_iload dX11_swap_94 3 rfl ?_
        refine x_istore (ls' := [(4, .int (nI (f + 1 + j))), (3, .int (nI f)), (2, .int (lessS hl r f (f + 1 + j))), (7, .int (lessS hl r f (f + 1 + j))), (6, .int (nI (f + 1 + j))), (5, .int (nI f)), (0, .ref x), (1, .int w)]) dX11_swap_96 (by decide) rfl ?_
        refine x_iinc (v := nI (f + 1 + j + 1)) (ls' := [(6, .int (nI (f + 1 + j + 1))), (4, .int (nI (f + 1 + j))), (3, .int (nI f)), (2, .int (lessS hl r f (f + 1 + j))), (7, .int (lessS hl r f (f + 1 + j))), (5, .int (nI f)), (0, .ref x), (1, .int w)]) dX11_swap_98 4 rfl (nIs _) (by decide) rfl ?_
        refine x_goto (tgt := 54) dX11_swap_101 (by decide) ?_
        refine x_perm (ls' := [(6, .int (nI (f + 1 + j + 1))), (5, .int (nI f)), (4, .int (nI (f + 1 + j))), (3, .int (nI f)), (2, .int (lessS hl r f (f + 1 + j))), (0, .ref x), (1, .int w)]) [0, 5, 1, 2, 3, 6, 7] rfl ?_
        have hsw : swI hl r f (j + 1) B0 = _ := (swI_s hl r f j B0).trans (if_pos (Int32.not_le.mp c85))
        refine x_leq (ls' := [(6, .int (nI (f + 1 + (j + 1)))), (5, .int (nI f)), (4, .int (swI hl r f (j + 1) B0).2.2), (3, .int (swI hl r f (j + 1) B0).2.1), (2, .int (swI hl r f (j + 1) B0).1), (0, .ref x), (1, .int w)]) (by rw [hsw]; rfl) ?_
        exact ih (j + 1) (by omega)
theorem Cls_sw_out {K : xG} {h x tn rc : Nat} {G : xHp} {hl : xHl} {r : xRw} {ru : Option Nat} {w : Int32} {Q : xPost} (m1 : G x = some (clsO x tn rc)) (hN : DayAt G (x + 26) hl r (x + 16) ru) (hO : HallOk hl) (hrow : RowOk hl r) (next : xV K mX11_swap 2 0 0 h G 110 [(4, .int (swO hl r (hl 0 3)).2.2), (3, .int (swO hl r (hl 0 3)).2.1), (2, .int (swO hl r (hl 0 3)).1), (0, .ref x), (1, .int w)] [] Q) : ∀ (k f : Nat), f + k = hl 0 3 → xV K mX11_swap 2 0 0 h G 33 [(5, .int (nI f)), (4, .int ((swO hl r f).2.2)), (3, .int ((swO hl r f).2.1)), (2, .int ((swO hl r f).1)), (0, .ref x), (1, .int w)] [] (Q) := by
  have hB := hN.2.1.2.2.2.2.2.2.2.2
  intro k
  induction k with
  | zero =>
    intro f hf
    have hf0 : f = hl 0 3 := by omega
    subst hf0
    refine x_iload dX11_swap_33 0 rfl ?_
    refine x_aload_n dX11_swap_35 4 rfl ?_
    refine x_get dX11_swap_36 fX11_55 (m1) rfl ?_
    refine x_get dX11_swap_39 fX11_89 (hN.1) rfl ?_
    refine x_get dX11_swap_42 fX11_225 (hN.2.1.1) rfl ?_
    refine x_icmpN_ge (tgt := 110) dX11_swap_45 (by decide) (by have := hB 0 3; omega) (by have := hB 0 3; omega) (fun c45 => ?_) (fun c45 => ?_)
    · refine x_perm (ls' := [(4, .int ((swO hl r (hl 0 3)).2.2)), (3, .int ((swO hl r (hl 0 3)).2.1)), (2, .int ((swO hl r (hl 0 3)).1)), (0, .ref x), (1, .int w)]) [1, 2, 3, 4, 5] rfl ?_
      exact next
    · exact absurd c45 (by omega)
  | succ k ih =>
    intro f hf
    refine x_iload dX11_swap_33 0 rfl ?_
    refine x_aload_n dX11_swap_35 4 rfl ?_
    refine x_get dX11_swap_36 fX11_55 (m1) rfl ?_
    refine x_get dX11_swap_39 fX11_89 (hN.1) rfl ?_
    refine x_get dX11_swap_42 fX11_225 (hN.2.1.1) rfl ?_
    refine x_icmpN_ge (tgt := 110) dX11_swap_45 (by decide) (by have := hB 0 3; omega) (by have := hB 0 3; omega) (fun c45 => ?_) (fun c45 => ?_)
    · exact absurd c45 (by omega)
    · refine x_iload dX11_swap_48 0 rfl ?_
      refine x_iconst dX11_swap_50 ki_1 ?_
      refine x_iaddN dX11_swap_51 ?_
      refine x_pc (pc' := 52) rfl ?_
      refine x_istore (ls' := [(6, .int (nI (f + 1))), (5, .int (nI f)), (4, .int ((swO hl r f).2.2)), (3, .int ((swO hl r f).2.1)), (2, .int ((swO hl r f).1)), (0, .ref x), (1, .int w)]) dX11_swap_52 (by decide) rfl ?_
      refine Cls_sw_in (B0 := swO hl r f) m1 hN hO hrow (by omega) ?_ (hl 0 3 - (f + 1)) 0 (by omega)
      refine x_iinc (v := nI (f + 1)) (ls' := [(5, .int (nI (f + 1))), (4, .int ((swI hl r f (hl 0 3 - (f + 1)) (swO hl r f)).2.2)), (3, .int ((swI hl r f (hl 0 3 - (f + 1)) (swO hl r f)).2.1)), (2, .int ((swI hl r f (hl 0 3 - (f + 1)) (swO hl r f)).1)), (0, .ref x), (1, .int w)]) dX11_swap_104 0 rfl (nIs _) (by decide) rfl ?_
      refine x_goto (tgt := 33) dX11_swap_107 (by decide) ?_
      exact ih (f + 1) (by omega)
theorem Cls_swap {K : xG} {h x lo : Nat} {G : xHp} {tp : Nat → Nat} {tn : Nat} {rs : List (List Nat)} {c : xCo} {im : Nat → Option xCo} {w : Int32} (hC : ClsAt G h x lo tp tn rs c im) (hK : CoreOk c) : xCall K mX11_swap 2 0 0 [.ref x, .int w] h G (clQ G h x lo (swapC c w) tp tn rs c im) := by
  refine x_entry (by decide) (ls := [(0, .ref x), (1, .int w)]) rfl (Nat.le_of_ble_eq_true rfl) ?_
  obtain ⟨ruf, ima, ru, hM, hE⟩ := hC
  obtain ⟨m1, m2, m3, m4, m5, m6, m7, m8, m9⟩ := id hM
  obtain ⟨rows, nx, fi, fs, al, s1, s2, s3, s4, s5⟩ := id m7
  have hN : DayAt G (x + 26) c.1.1 c.1.2 (x + 16) ru := s4
  have hB := hN.2.1.2.2.2.2.2.2.2.2
  have hrc := hE.2.2.1
  have htn := m2.2.2
  obtain ⟨hO, hX, hK3, hK4, hK5, hK6, hK7, hK8, hK9, hK10⟩ := id hK
  obtain ⟨o2, o3, o4, o5, o6, o7, o8, o9⟩ := id hO
  refine x_aload_n dX11_swap_0 0 rfl ?_
  refine x_get dX11_swap_1 fX11_47 (m1) rfl ?_
  refine x_get dX11_swap_4 fX11_151 (s1) rfl ?_
  refine x_ifB_eq (tgt := 19) dX11_swap_7 (by decide) (fun c7 => ?_) (fun c7 => ?_)
  · refine x_iconst dX11_swap_19 ki_m1 ?_
    exact x_iret dX11_swap_20 rfl (xEx_i G (Cls_same hM hE) (by unfold swapC; rw [if_neg (fun e => absurd (c7.symm.trans e.1) (by decide))]) rfl rfl)
  · refine x_iload_n dX11_swap_10 1 rfl ?_
    refine x_if_lt (tgt := 19) dX11_swap_11 (by decide) (fun c11 => ?_) (fun c11 => ?_)
    · refine x_iconst dX11_swap_19 ki_m1 ?_
      exact x_iret dX11_swap_20 rfl (xEx_i G (Cls_same hM hE) (by unfold swapC; rw [if_neg (fun e => absurd ((inR_neg c11).symm.trans e.2) (by decide))]) rfl rfl)
    · refine x_iload_n dX11_swap_14 1 rfl ?_
      refine x_iconst dX11_swap_15 ki_2 ?_
      refine x_icmp_le (x := w) (y := nI 2) (tgt := 21) dX11_swap_16 (by decide) (fun c16 => ?_) (fun c16 => ?_)
      · refine x_pc (pc' := 21) rfl ?_
        refine x_iconst dX11_swap_21 ki_0 ?_
        refine x_istore_n (ls' := [(2, .int (nI 0)), (0, .ref x), (1, .int w)]) dX11_swap_22 (by decide) rfl ?_
        refine x_bipush dX11_swap_23 kb_m2 ?_
        refine x_istore_n (ls' := [(3, .int (-2)), (2, .int (nI 0)), (0, .ref x), (1, .int w)]) dX11_swap_25 (by decide) rfl ?_
        refine x_bipush dX11_swap_26 kb_m2 ?_
        refine x_istore (ls' := [(4, .int (-2)), (3, .int (-2)), (2, .int (nI 0)), (0, .ref x), (1, .int w)]) dX11_swap_28 (by decide) rfl ?_
        refine x_iconst dX11_swap_30 ki_0 ?_
        refine x_istore (ls' := [(5, .int (nI 0)), (4, .int (-2)), (3, .int (-2)), (2, .int (nI 0)), (0, .ref x), (1, .int w)]) dX11_swap_31 (by decide) rfl ?_
        refine x_leq (ls' := [(5, .int (nI 0)), (4, .int (swO c.1.1 c.1.2 0).2.2), (3, .int (swO c.1.1 c.1.2 0).2.1), (2, .int (swO c.1.1 c.1.2 0).1), (0, .ref x), (1, .int w)]) rfl ?_
        refine Cls_sw_out m1 hN hO hX.1 ?_ (c.1.1 0 3) 0 (by omega)
        refine x_iload_n dX11_swap_110 4 rfl ?_
        refine x_if_ne (tgt := 125) dX11_swap_111 (by decide) (fun c111 => ?_) (fun c111 => ?_)
        · refine x_iload_n dX11_swap_125 4 rfl ?_
          refine x_iconst dX11_swap_126 ki_1 ?_
          refine x_icmp_ne (x := w) (y := nI 1) (tgt := 134) dX11_swap_127 (by decide) (fun c127 => ?_) (fun c127 => ?_)
          · refine x_iload dX11_swap_134 0 rfl ?_
            exact x_iret dX11_swap_136 rfl (xEx_i G (Cls_same hM hE) (by unfold swapC; rw [if_pos ⟨c7, inR_le (m := 2) (by decide) c11 c16⟩, if_neg c111, if_neg c127]) rfl rfl)
          · refine x_iload_n dX11_swap_130 1 rfl ?_
            refine x_goto (tgt := 136) dX11_swap_131 (by decide) ?_
            exact x_iret dX11_swap_136 rfl (xEx_i G (Cls_same hM hE) (by unfold swapC; rw [if_pos ⟨c7, inR_le (m := 2) (by decide) c11 c16⟩, if_neg c111, if_pos c127]) rfl rfl)
        · refine x_iload_n dX11_swap_114 2 rfl ?_
          refine x_if_le (tgt := 122) dX11_swap_115 (by decide) (fun c115 => ?_) (fun c115 => ?_)
          · refine x_bipush dX11_swap_122 kb_m2 ?_
            exact x_iret dX11_swap_124 rfl (xEx_i G (Cls_same hM hE) (by unfold swapC; rw [if_pos ⟨c7, inR_le (m := 2) (by decide) c11 c16⟩, if_pos c111, if_neg (Int32.not_lt.mpr c115)]) rfl rfl)
          · refine x_iload_n dX11_swap_118 2 rfl ?_
            refine x_goto (tgt := 124) dX11_swap_119 (by decide) ?_
            exact x_iret dX11_swap_124 rfl (xEx_i G (Cls_same hM hE) (by unfold swapC; rw [if_pos ⟨c7, inR_le (m := 2) (by decide) c11 c16⟩, if_pos c111, if_pos (Int32.not_le.mp c115)]) rfl rfl)
      · refine x_pc (pc' := 19) rfl ?_
        refine x_iconst dX11_swap_19 ki_m1 ?_
        exact x_iret dX11_swap_20 rfl (xEx_i G (Cls_same hM hE) (by unfold swapC; rw [if_neg (fun e => absurd ((inR_gt (m := 2) (by decide) c16).symm.trans e.2) (by decide))]) rfl rfl)
theorem Cls_ruled {K : xG} {h x lo : Nat} {G : xHp} {tp : Nat → Nat} {tn : Nat} {rs : List (List Nat)} {c : xCo} {im : Nat → Option xCo} {w : Int32} (hC : ClsAt G h x lo tp tn rs c im) (hK : CoreOk c) : xCall K mX11_ruled 7 0 0 [.ref x, .int w] h G (clQ G h x lo (ruledC rs c w) tp tn rs c im) := by
  refine x_entry (by decide) (ls := [(0, .ref x), (1, .int w)]) rfl (Nat.le_of_ble_eq_true rfl) ?_
  obtain ⟨ruf, ima, ru, hM, hE⟩ := hC
  obtain ⟨m1, m2, m3, m4, m5, m6, m7, m8, m9⟩ := id hM
  obtain ⟨rows, nx, fi, fs, al, s1, s2, s3, s4, s5⟩ := id m7
  have hN : DayAt G (x + 26) c.1.1 c.1.2 (x + 16) ru := s4
  have hB := hN.2.1.2.2.2.2.2.2.2.2
  have hrc := hE.2.2.1
  have htn := m2.2.2
  obtain ⟨hO, hX, hK3, hK4, hK5, hK6, hK7, hK8, hK9, hK10⟩ := id hK
  obtain ⟨o2, o3, o4, o5, o6, o7, o8, o9⟩ := id hO
  obtain ⟨hk, rk, rt, ch, mo, tr, B, q1, q2, q3⟩ := id m8
  have hT : TrW G G x hk rk rt ch mo := ⟨q1, q2, m6, FrS.rf⟩
  refine x_aload_n dX11_ruled_0 0 rfl ?_
  refine x_get dX11_ruled_1 fX11_47 (m1) rfl ?_
  refine x_get dX11_ruled_4 fX11_151 (s1) rfl ?_
  refine x_ifB_eq (tgt := 19) dX11_ruled_7 (by decide) (fun c7 => ?_) (fun c7 => ?_)
  · refine x_bipush dX11_ruled_19 kb_m3 ?_
    exact x_iret dX11_ruled_21 rfl (xEx_i G (Cls_same hM hE) (by unfold ruledC; rw [if_neg (fun e => absurd (c7.symm.trans e.1) (by decide))]) rfl rfl)
  · refine x_iload_n dX11_ruled_10 1 rfl ?_
    refine x_if_lt (tgt := 19) dX11_ruled_11 (by decide) (fun c11 => ?_) (fun c11 => ?_)
    · refine x_bipush dX11_ruled_19 kb_m3 ?_
      exact x_iret dX11_ruled_21 rfl (xEx_i G (Cls_same hM hE) (by unfold ruledC; rw [if_neg (fun e => absurd ((inR_neg c11).symm.trans e.2) (by decide))]) rfl rfl)
    · refine x_iload_n dX11_ruled_14 1 rfl ?_
      refine x_iconst dX11_ruled_15 ki_1 ?_
      refine x_icmp_le (x := w) (y := nI 1) (tgt := 22) dX11_ruled_16 (by decide) (fun c16 => ?_) (fun c16 => ?_)
      · refine x_pc (pc' := 22) rfl ?_
        refine x_aload_n dX11_ruled_22 0 rfl ?_
        refine x_get dX11_ruled_23 fX11_47 (m1) rfl ?_
        refine x_get dX11_ruled_26 fX11_243 (s1) rfl ?_
        refine x_astore_n (ls' := [(2, .ref (x + 20)), (0, .ref x), (1, .int w)]) dX11_ruled_29 (by decide) rfl ?_
        refine x_aload_n dX11_ruled_30 0 rfl ?_
        refine x_aload_n dX11_ruled_31 1 rfl ?_
        refine x_get dX11_ruled_32 fX11_31 (m1) rfl ?_
        refine x_aload_n dX11_ruled_35 1 rfl ?_
        refine x_get dX11_ruled_36 fX11_97 (m1) rfl ?_
        refine x_aload_n dX11_ruled_39 1 rfl ?_
        refine x_pc (pc' := 40) rfl ?_
        refine x_get dX11_ruled_40 fX11_61 (m1) rfl ?_
        refine x_iconst dX11_ruled_43 ki_0 ?_
        refine x_cVe (N := mX1_sift) (d' := 6) (mc := 0) (ms := 0) (cb := 0) (sb := 0) (As := [.ref (x + 15), .int (nI rs.length), .ref (x + 36), .int (nI 0)]) (st := []) dX11_ruled_44 mX1_sift_v lX11_256 rfl rfl (s2.1) rfl (by decide) (Nat.le_of_ble_eq_true rfl) (Books_sift hN (hE.rules hM) hO hK.hp hK5 (by omega) s2 hT) rfl (sf := fun e1 => []) (fun _ => rfl) (fun e1 hz1 => ?_)
        obtain ⟨⟨h1, r1, u1⟩, G0, G1⟩ := e1
        obtain ⟨hB1, hF1, hT1⟩ := hz1
        simp only at hB1 hF1 hT1
        have hfin := Cls_sift hM hE hB1 hF1 hT1
        have hB2 := hT1.books hB1
        have n1 : G1 x = some (clsO x tn rs.length) := (hT1.2.2.2 _ (by omega)).trans ((hF1 _ (by omega)).trans m1)
        have hN1 : DayAt G1 (x + 26) c.1.1 c.1.2 (x + 16) ru := hN.fr (fun a p q => (hT1.2.2.2 a (by omega)).trans (hF1 a (by omega)))
        refine x_iload_n dX11_ruled_47 2 rfl ?_
        refine x_if_ne (tgt := 58) dX11_ruled_48 (by decide) (fun c48 => ?_) (fun c48 => ?_)
        · refine x_aload_n dX11_ruled_58 0 rfl ?_
          refine x_get dX11_ruled_59 fX11_263 (hB2.1) rfl ?_
          exact x_iret dX11_ruled_62 rfl (xEx_i G1 hfin (by unfold ruledC; rw [if_pos ⟨c7, inR_le (m := 1) (by decide) c11 c16⟩, if_neg c48]; rfl) rfl rfl)
        · refine x_aload_n dX11_ruled_51 0 rfl ?_
          refine x_get dX11_ruled_52 fX11_260 (hB2.1) rfl ?_
          refine x_goto (tgt := 62) dX11_ruled_55 (by decide) ?_
          exact x_iret dX11_ruled_62 rfl (xEx_i G1 hfin (by unfold ruledC; rw [if_pos ⟨c7, inR_le (m := 1) (by decide) c11 c16⟩, if_pos c48]; rfl) rfl rfl)
      · refine x_pc (pc' := 19) rfl ?_
        refine x_bipush dX11_ruled_19 kb_m3 ?_
        exact x_iret dX11_ruled_21 rfl (xEx_i G (Cls_same hM hE) (by unfold ruledC; rw [if_neg (fun e => absurd ((inR_gt (m := 1) (by decide) c16).symm.trans e.2) (by decide))]) rfl rfl)
theorem Cls_look {K : xG} {h x lo : Nat} {G : xHp} {tp : Nat → Nat} {tn : Nat} {rs : List (List Nat)} {c : xCo} {im : Nat → Option xCo} {n w : Int32} (hC : ClsAt G h x lo tp tn rs c im) (hK : CoreOk c) : xCall K mX11_look 7 0 0 [.ref x, .int n, .int w] h G (clQ G h x lo (lookC rs c n w) tp tn rs c im) := by
  refine x_entry (by decide) (ls := [(0, .ref x), (1, .int n), (2, .int w)]) rfl (Nat.le_of_ble_eq_true rfl) ?_
  obtain ⟨ruf, ima, ru, hM, hE⟩ := hC
  obtain ⟨m1, m2, m3, m4, m5, m6, m7, m8, m9⟩ := id hM
  obtain ⟨rows, nx, fi, fs, al, s1, s2, s3, s4, s5⟩ := id m7
  have hN : DayAt G (x + 26) c.1.1 c.1.2 (x + 16) ru := s4
  have hB := hN.2.1.2.2.2.2.2.2.2.2
  have hrc := hE.2.2.1
  have htn := m2.2.2
  obtain ⟨hO, hX, hK3, hK4, hK5, hK6, hK7, hK8, hK9, hK10⟩ := id hK
  obtain ⟨o2, o3, o4, o5, o6, o7, o8, o9⟩ := id hO
  obtain ⟨hk, rk, rt, ch, mo, tr, B, q1, q2, q3⟩ := id m8
  have hT : TrW G G x hk rk rt ch mo := ⟨q1, q2, m6, FrS.rf⟩
  refine x_aload_n dX11_look_0 0 rfl ?_
  refine x_get dX11_look_1 fX11_47 (m1) rfl ?_
  refine x_get dX11_look_4 fX11_151 (s1) rfl ?_
  refine x_ifB_eq (tgt := 30) dX11_look_7 (by decide) (fun c7 => ?_) (fun c7 => ?_)
  · refine x_iconst dX11_look_30 ki_m1 ?_
    exact x_iret dX11_look_31 rfl (xEx_i G (Cls_same hM hE) (by unfold lookC; rw [if_neg (fun e => absurd (c7.symm.trans e.1) (by decide))]) rfl rfl)
  · refine x_iload_n dX11_look_10 1 rfl ?_
    refine x_if_lt (tgt := 30) dX11_look_11 (by decide) (fun c11 => ?_) (fun c11 => ?_)
    · refine x_iconst dX11_look_30 ki_m1 ?_
      exact x_iret dX11_look_31 rfl (xEx_i G (Cls_same hM hE) (by unfold lookC; rw [if_neg (fun e => absurd ((inR_neg c11).symm.trans e.2.1) (by decide))]) rfl rfl)
    · refine x_iload_n dX11_look_14 1 rfl ?_
      refine x_sipush dX11_look_15 ks_400 ?_
      refine x_icmp_ge (x := n) (y := nI 400) (tgt := 30) dX11_look_18 (by decide) (fun c18 => ?_) (fun c18 => ?_)
      · refine x_pc (pc' := 30) rfl ?_
        refine x_iconst dX11_look_30 ki_m1 ?_
        exact x_iret dX11_look_31 rfl (xEx_i G (Cls_same hM hE) (by unfold lookC; rw [if_neg (fun e => absurd ((inR_ge (by decide) c18).symm.trans e.2.1) (by decide))]) rfl rfl)
      · have hin : inR n 400 = true := inR_in (by decide) c11 c18
        have hin2 := hin
        obtain ⟨k, hk, hvk⟩ := inR_of hin
        subst hvk
        have hk1 := thN_nI (t := k) (by omega)
        have hal : ∀ j, alF c.1.1 rs (fun j => fitB c.1.1 c.2.1.1 c.2.1.2 (rvJ rs j)) k (rs.length + 1) j < 1000 := fun j => by have := alF_le (rs := rs) (p := (fun j => fitB c.1.1 c.2.1.1 c.2.1.2 (rvJ rs j))) (n := k) hO hK.hp (rs.length + 1) j; omega
        have hcf := cntF_le (fun j => fitB c.1.1 c.2.1.1 c.2.1.2 (rvJ rs j)) (rs.length + 1)
        refine x_pc (pc' := 21) rfl ?_
        refine x_iload_n dX11_look_21 2 rfl ?_
        refine x_if_lt (tgt := 30) dX11_look_22 (by decide) (fun c22 => ?_) (fun c22 => ?_)
        · refine x_iconst dX11_look_30 ki_m1 ?_
          exact x_iret dX11_look_31 rfl (xEx_i G (Cls_same hM hE) (by unfold lookC; rw [if_neg (fun e => absurd ((inR_neg c22).symm.trans e.2.2) (by decide))]) rfl rfl)
        · refine x_iload_n dX11_look_25 2 rfl ?_
          refine x_iconst dX11_look_26 ki_1 ?_
          refine x_icmp_le (x := w) (y := nI 1) (tgt := 32) dX11_look_27 (by decide) (fun c27 => ?_) (fun c27 => ?_)
          · refine x_aload_n dX11_look_32 0 rfl ?_
            refine x_get dX11_look_33 fX11_47 (m1) rfl ?_
            refine x_get dX11_look_36 fX11_243 (s1) rfl ?_
            refine x_astore_n (ls' := [(3, .ref (x + 20)), (0, .ref x), (1, .int (nI k)), (2, .int w)]) dX11_look_39 (by decide) rfl ?_
            refine x_aload_n dX11_look_40 0 rfl ?_
            refine x_pc (pc' := 41) rfl ?_
            refine x_aload_n dX11_look_41 1 rfl ?_
            refine x_get dX11_look_42 fX11_31 (m1) rfl ?_
            refine x_aload_n dX11_look_45 1 rfl ?_
            refine x_get dX11_look_46 fX11_97 (m1) rfl ?_
            refine x_aload_n dX11_look_49 1 rfl ?_
            refine x_get dX11_look_50 fX11_61 (m1) rfl ?_
            refine x_iload_n dX11_look_53 2 rfl ?_
            refine x_cVe (N := mX1_sift) (d' := 6) (mc := 0) (ms := 0) (cb := 0) (sb := 0) (As := [.ref (x + 15), .int (nI rs.length), .ref (x + 36), .int (nI k)]) (st := []) dX11_look_54 mX1_sift_v lX11_256 rfl rfl (s2.1) rfl (by decide) (Nat.le_of_ble_eq_true rfl) (Books_sift hN (hE.rules hM) hO hK.hp hK5 (by omega) s2 hT) rfl (sf := fun e1 => []) (fun _ => rfl) (fun e1 hz1 => ?_)
            obtain ⟨⟨h1, r1, u1⟩, G0, G1⟩ := e1
            obtain ⟨hB1, hF1, hT1⟩ := hz1
            simp only at hB1 hF1 hT1
            have hfin := Cls_sift hM hE hB1 hF1 hT1
            have hB2 := hT1.books hB1
            have n1 : G1 x = some (clsO x tn rs.length) := (hT1.2.2.2 _ (by omega)).trans ((hF1 _ (by omega)).trans m1)
            have hN1 : DayAt G1 (x + 26) c.1.1 c.1.2 (x + 16) ru := hN.fr (fun a p q => (hT1.2.2.2 a (by omega)).trans (hF1 a (by omega)))
            refine x_aload_n dX11_look_57 0 rfl ?_
            refine x_aload_n dX11_look_58 1 rfl ?_
            refine x_pc (pc' := 59) rfl ?_
            refine x_get dX11_look_59 fX11_55 (n1) rfl ?_
            refine x_get dX11_look_62 fX11_89 (hN1.1) rfl ?_
            refine x_get dX11_look_65 fX11_92 (hN1.2.1.1) rfl ?_
            refine x_cV (N := mX1_partingThing) (d' := 2) (mc := 0) (ms := 0) (cb := 0) (sb := 0) (As := [.int (nI (c.1.1 0 4))]) (st := []) dX11_look_68 mX1_partingThing_v lX11_266 rfl rfl (hB2.1) rfl (by decide) (Nat.le_of_ble_eq_true rfl) (Books_partingThing hB2 (by omega) hal) rfl (st1 := [.int (chI (ptF (alF c.1.1 rs (fun j => fitB c.1.1 c.2.1.1 c.2.1.2 (rvJ rs j)) k (rs.length + 1)) (c.1.1 0 4)))]) rfl ?_
            refine x_istore (ls' := [(4, .int (chI (ptF (alF c.1.1 rs (fun j => fitB c.1.1 c.2.1.1 c.2.1.2 (rvJ rs j)) k (rs.length + 1)) (c.1.1 0 4)))), (3, .ref (x + 20)), (0, .ref x), (1, .int (nI k)), (2, .int w)]) dX11_look_71 (by decide) rfl ?_
            rcases hpt : ptF (alF c.1.1 rs (fun j => fitB c.1.1 c.2.1.1 c.2.1.2 (rvJ rs j)) k (rs.length + 1)) (c.1.1 0 4) with _ | t
            · refine x_leq (ls' := [(4, .int (-1)), (3, .ref (x + 20)), (0, .ref x), (1, .int (nI k)), (2, .int w)]) rfl ?_
              refine x_aload_n dX11_look_73 1 rfl ?_
              refine x_get dX11_look_74 fX11_260 (hB2.1) rfl ?_
              refine x_ifN_eq (tgt := 86) dX11_look_77 (by decide) (by have := hB 0 0; have := hB 0 2; have := hB 0 3; have := hB 0 4; omega) (fun c77 => ?_) (fun c77 => ?_)
              · refine x_bipush dX11_look_86 kb_m2 ?_
                exact x_iret dX11_look_88 rfl (xEx_i G1 hfin (by have hpt2 : ptF (alF c.1.1 rs (fitC rs c) k (rs.length + 1)) (c.1.1 0 4) = _ := hpt; unfold lookC; rw [if_pos ⟨c7, hin2, inR_le (m := 1) (by decide) c22 c27⟩, hk1, hpt2]) rfl rfl)
              · refine x_iload dX11_look_80 0 rfl ?_
                refine x_iconst dX11_look_82 ki_m1 ?_
                refine x_pc (pc' := 83) rfl ?_
                refine x_icmp_ne (x := (-1)) (y := (-1)) (tgt := 89) dX11_look_83 (by decide) (fun c83 => ?_) (fun c83 => ?_)
                · exact absurd rfl c83
                · refine x_bipush dX11_look_86 kb_m2 ?_
                  exact x_iret dX11_look_88 rfl (xEx_i G1 hfin (by have hpt2 : ptF (alF c.1.1 rs (fitC rs c) k (rs.length + 1)) (c.1.1 0 4) = _ := hpt; unfold lookC; rw [if_pos ⟨c7, hin2, inR_le (m := 1) (by decide) c22 c27⟩, hk1, hpt2]) rfl rfl)
            · refine x_leq (ls' := [(4, .int (nI t)), (3, .ref (x + 20)), (0, .ref x), (1, .int (nI k)), (2, .int w)]) rfl ?_
              have htl := ptF_lt hpt
              refine x_aload_n dX11_look_73 1 rfl ?_
              refine x_get dX11_look_74 fX11_260 (hB2.1) rfl ?_
              refine x_ifN_eq (tgt := 86) dX11_look_77 (by decide) (by have := hB 0 0; have := hB 0 2; have := hB 0 3; have := hB 0 4; omega) (fun c77 => ?_) (fun c77 => ?_)
              · refine x_bipush dX11_look_86 kb_m2 ?_
                exact x_iret dX11_look_88 rfl (xEx_i G1 hfin (by have hpt2 : ptF (alF c.1.1 rs (fitC rs c) k (rs.length + 1)) (c.1.1 0 4) = _ := hpt; unfold lookC; rw [if_pos ⟨c7, hin2, inR_le (m := 1) (by decide) c22 c27⟩, hk1, hpt2]; simp only; rw [if_pos (show cntF (fitC rs c) (rs.length + 1) = 0 from c77)]) rfl rfl)
              · refine x_iload dX11_look_80 0 rfl ?_
                refine x_iconst dX11_look_82 ki_m1 ?_
                refine x_pc (pc' := 83) rfl ?_
                refine x_icmp_ne (x := nI t) (y := (-1)) (tgt := 89) dX11_look_83 (by decide) (fun c83 => ?_) (fun c83 => ?_)
                · refine x_iload_n dX11_look_89 4 rfl ?_
                  refine x_if_ne (tgt := 98) dX11_look_90 (by decide) (fun c90 => ?_) (fun c90 => ?_)
                  · refine x_aload_n dX11_look_98 1 rfl ?_
                    refine x_iload dX11_look_99 0 rfl ?_
                    refine x_cV (N := mX1_mostAlike) (d' := 1) (mc := 0) (ms := 0) (cb := 0) (sb := 0) (As := [.int (nI t)]) (st := []) dX11_look_101 mX1_mostAlike_v lX11_269 rfl rfl (hB2.1) rfl (by decide) (Nat.le_of_ble_eq_true rfl) (Books_mostAlike hB2 (by omega) hal) rfl (st1 := [.int (nI (mxF (alF c.1.1 rs (fun j => fitB c.1.1 c.2.1.1 c.2.1.2 (rvJ rs j)) k (rs.length + 1)) t 5))]) rfl ?_
                    exact x_iret dX11_look_104 rfl (xEx_i G1 hfin (by have hpt2 : ptF (alF c.1.1 rs (fitC rs c) k (rs.length + 1)) (c.1.1 0 4) = _ := hpt; unfold lookC; rw [if_pos ⟨c7, hin2, inR_le (m := 1) (by decide) c22 c27⟩, hk1, hpt2]; simp only; rw [if_neg (show ¬ cntF (fitC rs c) (rs.length + 1) = 0 from c77), if_neg c90]; rfl) rfl rfl)
                  · refine x_iload dX11_look_93 0 rfl ?_
                    refine x_goto (tgt := 104) dX11_look_95 (by decide) ?_
                    exact x_iret dX11_look_104 rfl (xEx_i G1 hfin (by have hpt2 : ptF (alF c.1.1 rs (fitC rs c) k (rs.length + 1)) (c.1.1 0 4) = _ := hpt; unfold lookC; rw [if_pos ⟨c7, hin2, inR_le (m := 1) (by decide) c22 c27⟩, hk1, hpt2]; simp only; rw [if_neg (show ¬ cntF (fitC rs c) (rs.length + 1) = 0 from c77), if_pos c90]) rfl rfl)
                · exact absurd c83 (nI_ne1 (by omega))
          · refine x_iconst dX11_look_30 ki_m1 ?_
            exact x_iret dX11_look_31 rfl (xEx_i G (Cls_same hM hE) (by unfold lookC; rw [if_neg (fun e => absurd ((inR_gt (m := 1) (by decide) c27).symm.trans e.2.2) (by decide))]) rfl rfl)
theorem Cls_sat_loop {K : xG} {h x tn rc mm pp x0 : Nat} {G : xHp} {hl : xHl} {r : xRw} {ru : Option Nat} {rv : Option (List Nat)} {ch mo w V : Int32} (m1 : G x = some (clsO x tn rc)) (hN : DayAt G (x + 26) hl r (x + 16) ru) (hR : RuleIn G ru rv (x + 51)) (hO : HallOk hl) (hc5 : ∀ t, t < hl 0 4 → hl 5 t ≤ 300) (hp2 : ∀ s, s < hl 0 2 → hl 2 s < 200) (hx0 : x0 < 2 ^ 31) (hpp : pp ≤ 60) (hmm : mm ≤ 10) (hV : (if w = 0 then (saF hl rv (pp + 1) x0 mm).2.1 else (saF hl rv (pp + 1) x0 mm).2.2) = V) : ∀ (i k : Nat) (G1 : xHp) (hk : xHl) (rk : xRw) (rt : Option Nat), k + i = mm → TrW G G1 x hk rk rt ch mo → xV K mX11_saturdays 6 0 0 h G1 60 [(7, .int (nI k)), (6, .int ((saF hl rv (pp + 1) x0 k).2.2)), (5, .int ((saF hl rv (pp + 1) x0 k).2.1)), (4, .int (nI ((saF hl rv (pp + 1) x0 k).1))), (0, .ref x), (1, .int (nI mm)), (2, .int (nI pp)), (3, .int w)] [] (xEx (fun e : (xHl × xRw × Option Nat) × xHp => TrW G e.2 x e.1.1 e.1.2.1 e.1.2.2 ch mo) (fun _ => some (.int V)) (fun _ => h) (fun e => e.2)) := by
  intro i
  induction i with
  | zero =>
    intro k G1 hk rk rt hi hT1
    have hi0 : k = mm := by omega
    subst hi0
    refine x_iload dX11_saturdays_60 0 rfl ?_
    refine x_iload_n dX11_saturdays_62 5 rfl ?_
    refine x_icmpN_ge (tgt := 120) dX11_saturdays_63 (by decide) (by omega) (by omega) (fun c63 => ?_) (fun c63 => ?_)
    · refine x_iload_n dX11_saturdays_120 7 rfl ?_
      refine x_if_ne (tgt := 129) dX11_saturdays_121 (by decide) (fun c121 => ?_) (fun c121 => ?_)
      · refine x_iload dX11_saturdays_129 1 rfl ?_
        exact x_iret dX11_saturdays_131 rfl (xEx_i ((hk, rk, rt), G1) hT1 (by rw [← hV, if_neg c121]) rfl rfl)
      · refine x_iload dX11_saturdays_124 2 rfl ?_
        refine x_goto (tgt := 131) dX11_saturdays_126 (by decide) ?_
        exact x_iret dX11_saturdays_131 rfl (xEx_i ((hk, rk, rt), G1) hT1 (by rw [← hV, if_pos c121]) rfl rfl)
    · exact absurd c63 (by omega)
  | succ i ih =>
    intro k G1 hk rk rt hi hT1
    have hx1 := saF_x (hl := hl) (rv := rv) (g := pp + 1) hx0 k
    have hO2 := sat_hall (a := (saF hl rv (pp + 1) x0 k).1) (g := pp + 1) hO hc5 (by omega) (by omega) (hl 0 4)
    have he4 := satF_k (saF hl rv (pp + 1) x0 k).1 (pp + 1) hl (k := 0) (by decide) 4 (hl 0 4)
    refine x_iload dX11_saturdays_60 0 rfl ?_
    refine x_iload_n dX11_saturdays_62 5 rfl ?_
    refine x_icmpN_ge (tgt := 120) dX11_saturdays_63 (by decide) (by omega) (by omega) (fun c63 => ?_) (fun c63 => ?_)
    · exact absurd c63 (by omega)
    · refine x_aload_n dX11_saturdays_66 4 rfl ?_
      refine x_get dX11_saturdays_67 fX11_61 ((hT1.2.2.2 _ (by omega)).trans m1) rfl ?_
      refine x_iload dX11_saturdays_70 3 rfl ?_
      refine x_iload_n dX11_saturdays_72 6 rfl ?_
      refine x_iconst dX11_saturdays_73 ki_1 ?_
      refine x_iaddN dX11_saturdays_74 ?_
      refine x_pc (pc' := 75) rfl ?_
      refine x_cVe (N := mX0_saturday) (d' := 5) (mc := 0) (ms := 0) (cb := 0) (sb := 0) (As := [.int (nI ((saF hl rv (pp + 1) x0 k).1)), .int (nI (pp + 1))]) (st := []) dX11_saturdays_75 mX0_saturday_v lX11_275 rfl rfl (hT1.1) rfl (by decide) (Nat.le_of_ble_eq_true rfl) (Asks_saturday hR hO hc5 hp2 hx1 (by omega) (by omega) hN hT1) rfl (sf := fun e2 => [.int (nI ((satF (saF hl rv (pp + 1) x0 k).1 (pp + 1) hl (hl 0 4)).1))]) (fun _ => rfl) (fun e2 hz2 => ?_)
      obtain ⟨r2, G2⟩ := e2
      obtain ⟨⟨v1, v2⟩, hT2⟩ := hz2
      simp only at v1 v2 hT2
      refine x_istore (ls' := [(4, .int (nI ((satF (saF hl rv (pp + 1) x0 k).1 (pp + 1) hl (hl 0 4)).1))), (7, .int (nI k)), (6, .int ((saF hl rv (pp + 1) x0 k).2.2)), (5, .int ((saF hl rv (pp + 1) x0 k).2.1)), (0, .ref x), (1, .int (nI mm)), (2, .int (nI pp)), (3, .int w)]) dX11_saturdays_78 (by decide) rfl ?_
      refine x_iload dX11_saturdays_80 3 rfl ?_
      refine x_aload_n dX11_saturdays_82 4 rfl ?_
      refine x_get dX11_saturdays_83 fX11_61 ((hT2.2.2.2 _ (by omega)).trans m1) rfl ?_
      refine x_get dX11_saturdays_86 fX11_278 (hT2.1) rfl ?_
      refine x_cV (N := mX2_saved) (d' := 0) (mc := 0) (ms := 0) (cb := 0) (sb := 0) (As := []) (st := [.int ((saF hl rv (pp + 1) x0 k).2.1)]) dX11_saturdays_89 mX2_saved_v lX11_192 rfl rfl (hT2.2.1.1) rfl (by decide) (Nat.le_of_ble_eq_true rfl) (Day_saved hT2.2.1 hO2) rfl (st1 := [.int (savedS (satF (saF hl rv (pp + 1) x0 k).1 (pp + 1) hl (hl 0 4)).2 r2), .int ((saF hl rv (pp + 1) x0 k).2.1)]) rfl ?_
      refine x_topi (y := savedS (satF (saF hl rv (pp + 1) x0 k).1 (pp + 1) hl (hl 0 4)).2 (goN (satF (saF hl rv (pp + 1) x0 k).1 (pp + 1) hl (hl 0 4)).2 rv (clearR hl) 400)) v1.saved ?_
      refine x_iadd dX11_saturdays_92 ?_
      refine x_istore (ls' := [(5, .int (((saF hl rv (pp + 1) x0 k).2.1) + (savedS (satF (saF hl rv (pp + 1) x0 k).1 (pp + 1) hl (hl 0 4)).2 (goN (satF (saF hl rv (pp + 1) x0 k).1 (pp + 1) hl (hl 0 4)).2 rv (clearR hl) 400)))), (4, .int (nI ((satF (saF hl rv (pp + 1) x0 k).1 (pp + 1) hl (hl 0 4)).1))), (7, .int (nI k)), (6, .int ((saF hl rv (pp + 1) x0 k).2.2)), (0, .ref x), (1, .int (nI mm)), (2, .int (nI pp)), (3, .int w)]) dX11_saturdays_93 (by decide) rfl ?_
      refine x_iload dX11_saturdays_95 3 rfl ?_
      refine x_pc (pc' := 97) rfl ?_
      refine x_aload_n dX11_saturdays_97 4 rfl ?_
      refine x_get dX11_saturdays_98 fX11_61 ((hT2.2.2.2 _ (by omega)).trans m1) rfl ?_
      refine x_get dX11_saturdays_101 fX11_278 (hT2.1) rfl ?_
      refine x_iconst dX11_saturdays_104 ki_4 ?_
      refine x_cV (N := mX2_bitsOf) (d' := 0) (mc := 0) (ms := 0) (cb := 0) (sb := 0) (As := [.int (nI 4)]) (st := [.int ((saF hl rv (pp + 1) x0 k).2.2)]) dX11_saturdays_105 mX2_bitsOf_v lX11_281 rfl rfl (hT2.2.1.1) rfl (by decide) (Nat.le_of_ble_eq_true rfl) (Day_bitsOf hT2.2.1 hO2) rfl (st1 := [.int (bitsOf (satF (saF hl rv (pp + 1) x0 k).1 (pp + 1) hl (hl 0 4)).2 r2 (nI 4)), .int ((saF hl rv (pp + 1) x0 k).2.2)]) rfl ?_
      refine x_cS (N := mJ6_bitCount_0f7a4) (d' := 0) (mc := 0) (ms := 0) (cb := 0) (sb := 0) (As := [.int (bitsOf (satF (saF hl rv (pp + 1) x0 k).1 (pp + 1) hl (hl 0 4)).2 r2 (nI 4))]) (st := [.int ((saF hl rv (pp + 1) x0 k).2.2)]) dX11_saturdays_108 mJ6_bitCount_0f7a4_s lX11_284 rfl (by decide) (Nat.le_of_ble_eq_true rfl) (Int_bitCount) rfl (st1 := [.int (bcI (bitsOf (satF (saF hl rv (pp + 1) x0 k).1 (pp + 1) hl (hl 0 4)).2 r2 (nI 4))), .int ((saF hl rv (pp + 1) x0 k).2.2)]) rfl ?_
      refine x_topi (y := nI (cntF (fun t => decide ((goN (satF (saF hl rv (pp + 1) x0 k).1 (pp + 1) hl (hl 0 4)).2 rv (clearR hl) 400) (21 + t) = nI 4)) (hl 0 4))) (by rw [v1.bits, bitsOf_pop _ _ _ hO2.2.2.1, he4]) ?_
      refine x_iadd dX11_saturdays_111 ?_
      refine x_istore (ls' := [(6, .int (((saF hl rv (pp + 1) x0 k).2.2) + (nI (cntF (fun t => decide ((goN (satF (saF hl rv (pp + 1) x0 k).1 (pp + 1) hl (hl 0 4)).2 rv (clearR hl) 400) (21 + t) = nI 4)) (hl 0 4))))), (5, .int (((saF hl rv (pp + 1) x0 k).2.1) + (savedS (satF (saF hl rv (pp + 1) x0 k).1 (pp + 1) hl (hl 0 4)).2 (goN (satF (saF hl rv (pp + 1) x0 k).1 (pp + 1) hl (hl 0 4)).2 rv (clearR hl) 400)))), (4, .int (nI ((satF (saF hl rv (pp + 1) x0 k).1 (pp + 1) hl (hl 0 4)).1))), (7, .int (nI k)), (0, .ref x), (1, .int (nI mm)), (2, .int (nI pp)), (3, .int w)]) dX11_saturdays_112 (by decide) rfl ?_
      refine x_iinc (v := nI (k + 1)) (ls' := [(7, .int (nI (k + 1))), (6, .int (((saF hl rv (pp + 1) x0 k).2.2) + (nI (cntF (fun t => decide ((goN (satF (saF hl rv (pp + 1) x0 k).1 (pp + 1) hl (hl 0 4)).2 rv (clearR hl) 400) (21 + t) = nI 4)) (hl 0 4))))), (5, .int (((saF hl rv (pp + 1) x0 k).2.1) + (savedS (satF (saF hl rv (pp + 1) x0 k).1 (pp + 1) hl (hl 0 4)).2 (goN (satF (saF hl rv (pp + 1) x0 k).1 (pp + 1) hl (hl 0 4)).2 rv (clearR hl) 400)))), (4, .int (nI ((satF (saF hl rv (pp + 1) x0 k).1 (pp + 1) hl (hl 0 4)).1))), (0, .ref x), (1, .int (nI mm)), (2, .int (nI pp)), (3, .int w)]) dX11_saturdays_114 3 rfl (nIs _) (by decide) rfl ?_
      refine x_goto (tgt := 60) dX11_saturdays_117 (by decide) ?_
      exact ih (k + 1) G2 _ r2 ru (by omega) hT2
theorem Cls_saturdays {K : xG} {h x lo : Nat} {G : xHp} {tp : Nat → Nat} {tn : Nat} {rs : List (List Nat)} {c : xCo} {im : Nat → Option xCo} {a b w : Int32} (hC : ClsAt G h x lo tp tn rs c im) (hK : CoreOk c) : xCall K mX11_saturdays 6 0 0 [.ref x, .int a, .int b, .int w] h G (clQ G h x lo (satC rs c a b w) tp tn rs c im) := by
  refine x_entry (by decide) (ls := [(0, .ref x), (1, .int a), (2, .int b), (3, .int w)]) rfl (Nat.le_of_ble_eq_true rfl) ?_
  obtain ⟨ruf, ima, ru, hM, hE⟩ := hC
  obtain ⟨m1, m2, m3, m4, m5, m6, m7, m8, m9⟩ := id hM
  obtain ⟨rows, nx, fi, fs, al, s1, s2, s3, s4, s5⟩ := id m7
  have hN : DayAt G (x + 26) c.1.1 c.1.2 (x + 16) ru := s4
  have hB := hN.2.1.2.2.2.2.2.2.2.2
  have hrc := hE.2.2.1
  have htn := m2.2.2
  obtain ⟨hO, hX, hK3, hK4, hK5, hK6, hK7, hK8, hK9, hK10⟩ := id hK
  obtain ⟨o2, o3, o4, o5, o6, o7, o8, o9⟩ := id hO
  obtain ⟨hk, rk, rt, ch, mo, tr, B, q1, q2, q3⟩ := id m8
  have hT : TrW G G x hk rk rt ch mo := ⟨q1, q2, m6, FrS.rf⟩
  refine x_aload_n dX11_saturdays_0 0 rfl ?_
  refine x_get dX11_saturdays_1 fX11_47 (m1) rfl ?_
  refine x_get dX11_saturdays_4 fX11_151 (s1) rfl ?_
  refine x_ifB_eq (tgt := 40) dX11_saturdays_7 (by decide) (fun c7 => ?_) (fun c7 => ?_)
  · refine x_iconst dX11_saturdays_40 ki_m1 ?_
    exact x_iret dX11_saturdays_41 rfl (xEx_i G (Cls_same hM hE) (by unfold satC; rw [if_neg (fun e => absurd (c7.symm.trans e.1) (by decide))]) rfl rfl)
  · refine x_iload_n dX11_saturdays_10 1 rfl ?_
    refine x_iconst dX11_saturdays_11 ki_1 ?_
    refine x_icmp_lt (x := a) (y := nI 1) (tgt := 40) dX11_saturdays_12 (by decide) (fun c12 => ?_) (fun c12 => ?_)
    · refine x_iconst dX11_saturdays_40 ki_m1 ?_
      exact x_iret dX11_saturdays_41 rfl (xEx_i G (Cls_same hM hE) (by unfold satC; rw [if_neg (fun e => e.2.1 c12)]) rfl rfl)
    · refine x_iload_n dX11_saturdays_15 1 rfl ?_
      refine x_bipush dX11_saturdays_16 kb_10 ?_
      refine x_pc (pc' := 18) rfl ?_
      refine x_icmp_gt (x := a) (y := nI 10) (tgt := 40) dX11_saturdays_18 (by decide) (fun c18 => ?_) (fun c18 => ?_)
      · refine x_iconst dX11_saturdays_40 ki_m1 ?_
        exact x_iret dX11_saturdays_41 rfl (xEx_i G (Cls_same hM hE) (by unfold satC; rw [if_neg (fun e => e.2.2.1 c18)]) rfl rfl)
      · have h0a : ¬ a < 0 := fun q => c12 (Int32.lt_trans q (by decide))
        obtain ⟨mm, hmm, hva⟩ := nI_of2 (M := nI 10) (n := 10) (by decide) h0a (Int32.not_lt.mp c18)
        have hm1 := thN_nI (t := mm) (by omega)
        subst hva
        refine x_iload_n dX11_saturdays_21 2 rfl ?_
        refine x_if_lt (tgt := 40) dX11_saturdays_22 (by decide) (fun c22 => ?_) (fun c22 => ?_)
        · refine x_iconst dX11_saturdays_40 ki_m1 ?_
          exact x_iret dX11_saturdays_41 rfl (xEx_i G (Cls_same hM hE) (by unfold satC; rw [if_neg (fun e => absurd ((inR_neg c22).symm.trans e.2.2.2.1) (by decide))]) rfl rfl)
        · refine x_iload_n dX11_saturdays_25 2 rfl ?_
          refine x_bipush dX11_saturdays_26 kb_60 ?_
          refine x_icmp_gt (x := b) (y := nI 60) (tgt := 40) dX11_saturdays_28 (by decide) (fun c28 => ?_) (fun c28 => ?_)
          · refine x_iconst dX11_saturdays_40 ki_m1 ?_
            exact x_iret dX11_saturdays_41 rfl (xEx_i G (Cls_same hM hE) (by unfold satC; rw [if_neg (fun e => absurd ((inR_gt (m := 60) (by decide) (Int32.not_le.mpr c28)).symm.trans e.2.2.2.1) (by decide))]) rfl rfl)
          · have hib : inR b 61 = true := inR_le (m := 60) (by decide) c22 (Int32.not_lt.mp c28)
            have hib2 := hib
            obtain ⟨pp, hpp, hvpp⟩ := inR_of hib
            subst hvpp
            have hp1 := thN_nI (t := pp) (by omega)
            refine x_iload_n dX11_saturdays_31 3 rfl ?_
            refine x_if_lt (tgt := 40) dX11_saturdays_32 (by decide) (fun c32 => ?_) (fun c32 => ?_)
            · refine x_iconst dX11_saturdays_40 ki_m1 ?_
              exact x_iret dX11_saturdays_41 rfl (xEx_i G (Cls_same hM hE) (by unfold satC; rw [if_neg (fun e => absurd ((inR_neg c32).symm.trans e.2.2.2.2) (by decide))]) rfl rfl)
            · refine x_iload_n dX11_saturdays_35 3 rfl ?_
              refine x_iconst dX11_saturdays_36 ki_1 ?_
              refine x_pc (pc' := 37) rfl ?_
              refine x_icmp_le (x := w) (y := nI 1) (tgt := 42) dX11_saturdays_37 (by decide) (fun c37 => ?_) (fun c37 => ?_)
              · refine x_aload_n dX11_saturdays_42 0 rfl ?_
                refine x_get dX11_saturdays_43 fX11_47 (m1) rfl ?_
                refine x_get dX11_saturdays_46 fX11_272 (s1) rfl ?_
                refine x_istore (ls' := [(4, .int (nI c.2.2.1.2.2)), (0, .ref x), (1, .int (nI mm)), (2, .int (nI pp)), (3, .int w)]) dX11_saturdays_49 (by decide) rfl ?_
                refine x_iconst dX11_saturdays_51 ki_0 ?_
                refine x_istore (ls' := [(5, .int (nI 0)), (4, .int (nI c.2.2.1.2.2)), (0, .ref x), (1, .int (nI mm)), (2, .int (nI pp)), (3, .int w)]) dX11_saturdays_52 (by decide) rfl ?_
                refine x_iconst dX11_saturdays_54 ki_0 ?_
                refine x_istore (ls' := [(6, .int (nI 0)), (5, .int (nI 0)), (4, .int (nI c.2.2.1.2.2)), (0, .ref x), (1, .int (nI mm)), (2, .int (nI pp)), (3, .int w)]) dX11_saturdays_55 (by decide) rfl ?_
                refine x_iconst dX11_saturdays_57 ki_0 ?_
                refine x_pc (pc' := 58) rfl ?_
                refine x_istore (ls' := [(7, .int (nI 0)), (6, .int (nI 0)), (5, .int (nI 0)), (4, .int (nI c.2.2.1.2.2)), (0, .ref x), (1, .int (nI mm)), (2, .int (nI pp)), (3, .int w)]) dX11_saturdays_58 (by decide) rfl ?_
                refine x_post (fun v2 h2 G2 hq => ?_) (Cls_sat_loop (V := if w = 0 then (saF c.1.1 (rvC rs c) (pp + 1) c.2.2.1.2.2 mm).2.1 else (saF c.1.1 (rvC rs c) (pp + 1) c.2.2.1.2.2 mm).2.2) m1 hN hE.rule hO (fun t ht => by have := hK3 t ht; omega) hK.hp hK8 (by omega) hmm rfl mm 0 G hk rk rt (by omega) hT)
                have hsat : satC rs c (nI mm) (nI pp) w = if w = 0 then (saF c.1.1 (rvC rs c) (pp + 1) c.2.2.1.2.2 mm).2.1 else (saF c.1.1 (rvC rs c) (pp + 1) c.2.2.1.2.2 mm).2.2 := by unfold satC; rw [if_pos ⟨c7, c12, c18, hib2, inR_le (m := 1) (by decide) c32 c37⟩, hm1, hp1]
                obtain ⟨⟨⟨y1, y2, y3⟩, y4⟩, yT, yv, yh, yG⟩ := hq
                exact ⟨y4, Cls_ask hM hE yT, yv.trans (congrArg (fun q => some (Value.int q)) hsat.symm), yh, yG⟩
              · refine x_iconst dX11_saturdays_40 ki_m1 ?_
                exact x_iret dX11_saturdays_41 rfl (xEx_i G (Cls_same hM hE) (by unfold satC; rw [if_neg (fun e => absurd ((inR_gt (m := 1) (by decide) c37).symm.trans e.2.2.2.2) (by decide))]) rfl rfl)
