theorem Asks_late_loop {K : xG} {h x s mm : Nat} {G0 : xHp} {hl : xHl} {r : xRw} {ru : Option Nat} {rv : Option (List Nat)} {ch mo W : Int32} (hN : DayAt G0 (x + 26) hl r (x + 16) ru) (hR : RuleIn G0 ru rv (x + 51)) (hO : HallOk hl) (hrow : RowOk hl r) (hs : s < hl 0 2) (hm : r 0 = nI mm) (hmm : mm < 100000) (hf : hl 0 4 < 7 → r (21 + hl 0 4) = 0) (ht : hl 0 4 < 7) : ∀ (j : Nat) (cv : Int32) (G1 : xHp) (hk : xHl) (rk : xRw) (rt : Option Nat), (j = 0 → cv < nI mm) → (∀ i, j = i + 1 → cv = nI (mm + i)) → (0 < j → mm + j ≤ hl 0 0 + 1) → lateF hl rv r s mm j = W → TrW G0 G1 x hk rk rt ch mo → xV K mX0_lastCome 5 0 0 h G1 45 [(3, .int cv), (2, .int (nI (hl 0 4))), (0, .ref (x + 36)), (1, .int (nI s))] [] (xEx (fun e : (xHl × xRw × Option Nat) × xHp => TrW G0 e.2 x e.1.1 e.1.2.1 e.1.2.2 ch mo) (fun _ => some (.int (W))) (fun _ => h) (fun e => e.2)) := by
  obtain ⟨o2, o3, o4, o5, o6, o7, o8, o9⟩ := id hO
  intro j
  induction j with
  | zero =>
    intro cv G1 hk rk rt h0 h1 h2 hW hT1
    have hN1 := hT1.now hN
    refine x_iload_n dX0_lastCome_45 0 rfl ?_
    refine x_aload_n dX0_lastCome_46 2 rfl ?_
    refine x_get dX0_lastCome_47 fX0_9 (hT1.1) rfl ?_
    refine x_cV (N := mX2_minuteNow) (d' := 0) (mc := 0) (ms := 0) (cb := 0) (sb := 0) (As := []) (st := [.int cv]) dX0_lastCome_50 mX2_minuteNow_v lX0_54 rfl rfl (hN1.1) rfl (by decide) (Nat.le_of_ble_eq_true rfl) (Day_minuteNow hN1) rfl (st1 := [.int (r 0), .int cv]) rfl ?_
    refine x_topi (y := nI mm) hm ?_
    refine x_icmp_lt (x := cv) (y := nI mm) (tgt := 106) dX0_lastCome_53 (by decide) (fun c53 => ?_) (fun c53 => ?_)
    · refine x_bipush dX0_lastCome_106 kb_m2 ?_
      exact x_iret dX0_lastCome_108 rfl (xEx_i ((hk, rk, rt), G1) hT1 (by rw [← hW]; rfl) rfl rfl)
    · exact absurd (h0 rfl) c53
  | succ j ih =>
    intro cv G1 hk rk rt h0 h1 h2 hW hT1
    have hN1 := hT1.now hN
    have hcv := h1 j rfl
    subst hcv
    have h3 := h2 (by omega)
    refine x_iload_n dX0_lastCome_45 0 rfl ?_
    refine x_aload_n dX0_lastCome_46 2 rfl ?_
    refine x_get dX0_lastCome_47 fX0_9 (hT1.1) rfl ?_
    refine x_cV (N := mX2_minuteNow) (d' := 0) (mc := 0) (ms := 0) (cb := 0) (sb := 0) (As := []) (st := [.int (nI (mm + j))]) dX0_lastCome_50 mX2_minuteNow_v lX0_54 rfl rfl (hN1.1) rfl (by decide) (Nat.le_of_ble_eq_true rfl) (Day_minuteNow hN1) rfl (st1 := [.int (r 0), .int (nI (mm + j))]) rfl ?_
    refine x_topi (y := nI mm) hm ?_
    refine x_icmpN_lt (tgt := 106) dX0_lastCome_53 (by decide) (by omega) (by omega) (fun c53 => ?_) (fun c53 => ?_)
    · exact absurd c53 (by omega)
    · refine x_aload_n dX0_lastCome_56 2 rfl ?_
      refine x_get dX0_lastCome_57 fX0_20 (hT1.1) rfl ?_
      refine x_aload_n dX0_lastCome_60 2 rfl ?_
      refine x_get dX0_lastCome_61 fX0_9 (hT1.1) rfl ?_
      refine x_pc (pc' := 64) rfl ?_
      refine x_cVe (N := mX2_copy) (d' := 2) (mc := 0) (ms := 0) (cb := 0) (sb := 0) (As := [.ref (x + 26)]) (st := []) dX0_lastCome_64 mX2_copy_v lX0_32 rfl rfl (hT1.2.1.1) rfl (by decide) (Nat.le_of_ble_eq_true rfl) (Tr_copy hN hT1) rfl (sf := fun G2 => []) (fun _ => rfl) (fun G2 hT2 => ?_)
      have hN2 := hT2.now hN
      refine x_aload_n dX0_lastCome_67 2 rfl ?_
      refine x_get dX0_lastCome_68 fX0_20 (hT2.1) rfl ?_
      refine x_get dX0_lastCome_71 fX0_57 (hT2.2.1.1) rfl ?_
      refine x_iload_n dX0_lastCome_74 3 rfl ?_
      refine x_iload_n dX0_lastCome_75 0 rfl ?_
      refine x_iconst dX0_lastCome_76 ki_1 ?_
      refine x_iconst dX0_lastCome_77 ki_0 ?_
      refine x_cVe (N := mX3_addThing) (d' := 0) (mc := 0) (ms := 0) (cb := 0) (sb := 0) (As := [.int (nI s), .int (nI (mm + j)), .int (nI 1), .int (nI 0)]) (st := []) dX0_lastCome_78 mX3_addThing_v lX0_116 rfl rfl (hT2.2.1.2.1.1) rfl (by decide) (Nat.le_of_ble_eq_true rfl) (Tr_hallq hT2 (Hall_addThing hT2.2.1.2.1 ht (by omega) (by omega) (by decide) (by decide))) rfl (sf := fun G3 => []) (fun _ => rfl) (fun G3 hT3 => ?_)
      have hN3 := hT3.now hN
      refine x_aload_n dX0_lastCome_81 2 rfl ?_
      refine x_pc (pc' := 82) rfl ?_
      refine x_iload_n dX0_lastCome_82 1 rfl ?_
      refine x_cVe (N := mX0_goTillOver) (d' := 4) (mc := 0) (ms := 0) (cb := 0) (sb := 0) (As := [.int (nI (hl 0 4))]) (st := []) dX0_lastCome_83 mX0_goTillOver_v lX0_39 rfl rfl (hT3.1) rfl (by decide) (Nat.le_of_ble_eq_true rfl) (Asks_goTillOver hR (late_hall hO hs (by omega) ht) ht (late_row hrow (hf ht)) hT3) rfl (sf := fun G4 => []) (fun _ => rfl) (fun G4 hT4 => ?_)
      have hN4 := hT4.now hN
      refine x_aload_n dX0_lastCome_86 2 rfl ?_
      refine x_get dX0_lastCome_87 fX0_20 (hT4.1) rfl ?_
      refine x_iload_n dX0_lastCome_90 1 rfl ?_
      refine x_cV (N := mX2_howIs) (d' := 0) (mc := 0) (ms := 0) (cb := 0) (sb := 0) (As := [.int (nI (hl 0 4))]) (st := []) dX0_lastCome_91 mX2_howIs_v lX0_42 rfl rfl (hT4.2.1.1) rfl (by decide) (Nat.le_of_ble_eq_true rfl) (Day_howIs hT4.2.1 ht) rfl (st1 := [.int ((till (lateH hl s (mm + j)) rv (hl 0 4) 400 r) (21 + hl 0 4))]) rfl ?_
      refine x_iconst dX0_lastCome_94 ki_3 ?_
      refine x_icmp_ne (x := (till (lateH hl s (mm + j)) rv (hl 0 4) 400 r) (21 + hl 0 4)) (y := nI 3) (tgt := 100) dX0_lastCome_95 (by decide) (fun c95 => ?_) (fun c95 => ?_)
      · refine x_iinc (v := nI (mm + j) + (-1)) (ls' := [(3, .int (nI (mm + j) + (-1))), (2, .int (nI (hl 0 4))), (0, .ref (x + 36)), (1, .int (nI s))]) dX0_lastCome_100 0 rfl (by rw [ki_m1]) (by decide) rfl ?_
        refine x_goto (tgt := 45) dX0_lastCome_103 (by decide) ?_
        refine ih _ G4 (lateH hl s (mm + j)) (till (lateH hl s (mm + j)) rv (hl 0 4) 400 r) ru (fun e => ?_) (fun i e => ?_) (by omega) ((if_neg (show ¬ _ = (3 : Int32) from c95)).symm.trans hW) hT4
        · subst e; exact lt_m1 (by omega)
        · subst e; exact pk_m1 (mm + i)
      · refine x_iload_n dX0_lastCome_98 0 rfl ?_
        exact x_iret dX0_lastCome_99 rfl (xEx_i (((lateH hl s (mm + j)), (till (lateH hl s (mm + j)) rv (hl 0 4) 400 r), ru), G4) hT4 (by rw [← hW]; simp only [lateF]; rw [if_pos (show _ = (3 : Int32) from c95)]) rfl rfl)
theorem Asks_lastCome {K : xG} {h x s mm : Nat} {G0 G : xHp} {hl : xHl} {r : xRw} {ru : Option Nat} {rv : Option (List Nat)} {hk : xHl} {rk : xRw} {rt : Option Nat} {ch mo : Int32} (hN : DayAt G0 (x + 26) hl r (x + 16) ru) (hR : RuleIn G0 ru rv (x + 51)) (hO : HallOk hl) (hrow : RowOk hl r) (hs : s < hl 0 2) (hm : r 0 = nI mm) (hmm : mm < 100000) (hf : hl 0 4 < 7 → r (21 + hl 0 4) = 0) (hT : TrW G0 G x hk rk rt ch mo) : xCall K mX0_lastCome 5 0 0 [.ref (x + 36), .int (nI s)] h G (xEx (fun e : (xHl × xRw × Option Nat) × xHp => TrW G0 e.2 x e.1.1 e.1.2.1 e.1.2.2 ch mo) (fun _ => some (.int (lateS hl rv r s mm))) (fun _ => h) (fun e => e.2)) := by
  refine x_entry (by decide) (ls := [(0, .ref (x + 36)), (1, .int (nI s))]) rfl (Nat.le_of_ble_eq_true rfl) ?_
  have hNz := hT.now hN
  have hB := hN.2.1.2.2.2.2.2.2.2.2
  obtain ⟨o2, o3, o4, o5, o6, o7, o8, o9⟩ := id hO
  refine x_aload_n dX0_lastCome_0 0 rfl ?_
  refine x_get dX0_lastCome_1 fX0_9 (hT.1) rfl ?_
  refine x_get dX0_lastCome_4 fX0_57 (hNz.1) rfl ?_
  refine x_get dX0_lastCome_7 fX0_72 (hNz.2.1.1) rfl ?_
  refine x_istore_n (ls' := [(2, .int (nI (hl 0 4))), (0, .ref (x + 36)), (1, .int (nI s))]) dX0_lastCome_10 (by decide) rfl ?_
  refine x_iload_n dX0_lastCome_11 0 rfl ?_
  refine x_bipush dX0_lastCome_12 kb_7 ?_
  refine x_icmpN_ge (tgt := 31) dX0_lastCome_14 (by decide) (by have := hB 0 2; have := hB 0 3; have := hB 0 4; omega) (by have := hB 0 2; have := hB 0 3; have := hB 0 4; omega) (fun c14 => ?_) (fun c14 => ?_)
  · refine x_bipush dX0_lastCome_31 kb_m2 ?_
    refine x_pc (pc' := 33) rfl ?_
    exact x_iret dX0_lastCome_33 rfl (xEx_i ((hk, rk, rt), G) hT (by unfold lateS; rw [if_pos (Or.inl c14)]) rfl rfl)
  · refine x_aload_n dX0_lastCome_17 1 rfl ?_
    refine x_pc (pc' := 18) rfl ?_
    refine x_get dX0_lastCome_18 fX0_9 (hT.1) rfl ?_
    refine x_get dX0_lastCome_21 fX0_57 (hNz.1) rfl ?_
    refine x_iload_n dX0_lastCome_24 2 rfl ?_
    refine x_cV (N := mX3_hasSkillFor) (d' := 1) (mc := 0) (ms := 0) (cb := 0) (sb := 0) (As := [.int (nI s)]) (st := []) dX0_lastCome_25 mX3_hasSkillFor_v lX0_109 rfl rfl (hNz.2.1.1) rfl (by decide) (Nat.le_of_ble_eq_true rfl) (Hall_hasSkillFor hNz.2.1 (by omega) (by omega)) rfl (st1 := [.int (bI (decide (∃ q, q < hl 0 3 ∧ 0 < hl 3 (q * 4 + s))))]) rfl ?_
    refine x_ifB_ne (tgt := 34) dX0_lastCome_28 (by decide) (fun c28 => ?_) (fun c28 => ?_)
    · refine x_aload_n dX0_lastCome_34 1 rfl ?_
      refine x_get dX0_lastCome_35 fX0_9 (hT.1) rfl ?_
      refine x_get dX0_lastCome_38 fX0_57 (hNz.1) rfl ?_
      refine x_get dX0_lastCome_41 fX0_113 (hNz.2.1.1) rfl ?_
      refine x_istore_n (ls' := [(3, .int (nI (hl 0 0))), (2, .int (nI (hl 0 4))), (0, .ref (x + 36)), (1, .int (nI s))]) dX0_lastCome_44 (by decide) rfl ?_
      refine Asks_late_loop hN hR hO hrow hs hm hmm hf c14 (hl 0 0 + 1 - mm) _ G hk rk rt (fun e => nI_lt (by omega) (by omega)) (fun i e => by rw [show hl 0 0 = mm + i by omega]) (by omega) ?_ hT
      unfold lateS
      rw [if_neg (by rw [c28]; simp; omega)]
    · refine x_bipush dX0_lastCome_31 kb_m2 ?_
      exact x_iret dX0_lastCome_33 rfl (xEx_i ((hk, rk, rt), G) hT (by unfold lateS; rw [if_pos (Or.inr c28)]) rfl rfl)
theorem Asks_sat_loop {K : xG} {h x a g : Nat} {hl : xHl} {ru : Option Nat} {rv : Option (List Nat)} {ch mo : Int32} {G0 : xHp} (hR : RuleIn G0 ru rv (x + 51)) (hO : HallOk hl) (hc5 : ∀ t, t < hl 0 4 → hl 5 t ≤ 300) (hp2 : ∀ s, s < hl 0 2 → hl 2 s < 200) (ha : a < 2 ^ 31) (hg : 0 < g) (hg2 : g ≤ 61) : ∀ (k t : Nat) (G1 : xHp), t + k = hl 0 4 → TrW G0 G1 x (satF a g hl t).2 (clearR hl) ru ch mo → xV K mX0_saturday 5 0 0 h G1 14 [(3, .int (nI t)), (0, .ref (x + 36)), (1, .int (nI ((satF a g hl t).1))), (2, .int (nI g))] [] (xEx (fun e : xRw × xHp => (VisEq (satF a g hl (hl 0 4)).2 (goN (satF a g hl (hl 0 4)).2 rv (clearR hl) 400) e.1 ∧ RowOk (satF a g hl (hl 0 4)).2 e.1) ∧ TrW G0 e.2 x (satF a g hl (hl 0 4)).2 e.1 ru ch mo) (fun _ => some (.int (nI (satF a g hl (hl 0 4)).1))) (fun _ => h) (fun e => e.2)) := by
  obtain ⟨o2, o3, o4, o5, o6, o7, o8, o9⟩ := id hO
  have hx := satF_x (g := g) (hl := hl) ha
  intro k
  induction k with
  | zero =>
    intro t G1 hv hT1
    have hv0 : t = hl 0 4 := by omega
    subst hv0
    refine x_iload_n dX0_saturday_14 0 rfl ?_
    refine x_aload_n dX0_saturday_15 1 rfl ?_
    refine x_get dX0_saturday_16 fX0_20 (hT1.1) rfl ?_
    refine x_get dX0_saturday_19 fX0_57 (hT1.2.1.1) rfl ?_
    refine x_get dX0_saturday_22 fX0_72 (hT1.2.1.2.1.1) rfl ?_
    refine x_topi (y := nI (hl 0 4)) (congrArg nI (satF_k a g hl (by decide) 4 _)) ?_
    refine x_icmpN_ge (tgt := 79) dX0_saturday_25 (by decide) (by omega) (by omega) (fun c25 => ?_) (fun c25 => ?_)
    · refine x_aload_n dX0_saturday_79 1 rfl ?_
      refine x_get dX0_saturday_80 fX0_20 (hT1.1) rfl ?_
      refine x_sipush dX0_saturday_83 ks_400 ?_
      refine x_pc (pc' := 86) rfl ?_
      refine x_cVe (N := mX2_goFar) (d' := 4) (mc := 0) (ms := 0) (cb := 0) (sb := 0) (As := [.int (nI 400)]) (st := []) dX0_saturday_86 mX2_goFar_v lX0_35 rfl rfl (hT1.2.1.1) rfl (by decide) (Nat.le_of_ble_eq_true rfl) (Tr_goFar hT1 hR (sat_hall hO hc5 hg hg2 _) (row_hall (clear_ok hO hp2) (fun j => satF_k a g hl (by decide) j _)) (by decide)) rfl (sf := fun e2 => []) (fun _ => rfl) (fun e2 hq2 => ?_)
      obtain ⟨⟨hv2, hok2⟩, hT2⟩ := hq2
      obtain ⟨r2, G2⟩ := e2
      simp only at hv2 hok2 hT2
      refine x_iload_n dX0_saturday_89 2 rfl ?_
      exact x_iret dX0_saturday_90 rfl (xEx_i (r2, G2) ⟨⟨hv2, hok2⟩, hT2⟩ rfl rfl rfl)
    · exact absurd c25 (by omega)
  | succ k ih =>
    intro t G1 hv hT1
    have hx1 := hx t
    have hx2 := drwN_lt (satF a g hl t).1
    have h5 := satF_lo a g hl hg t t
    have h6 := hc5 t (by omega)
    refine x_iload_n dX0_saturday_14 0 rfl ?_
    refine x_aload_n dX0_saturday_15 1 rfl ?_
    refine x_get dX0_saturday_16 fX0_20 (hT1.1) rfl ?_
    refine x_get dX0_saturday_19 fX0_57 (hT1.2.1.1) rfl ?_
    refine x_get dX0_saturday_22 fX0_72 (hT1.2.1.2.1.1) rfl ?_
    refine x_topi (y := nI (hl 0 4)) (congrArg nI (satF_k a g hl (by decide) 4 _)) ?_
    refine x_icmpN_ge (tgt := 79) dX0_saturday_25 (by decide) (by omega) (by omega) (fun c25 => ?_) (fun c25 => ?_)
    · exact absurd c25 (by omega)
    · refine x_iload_n dX0_saturday_28 2 rfl ?_
      refine x_i2l dX0_saturday_29 ?_
      refine x_ldc2 dX0_saturday_30 cX0_131 ?_
      refine x_pc (pc' := 33) rfl ?_
      refine x_lmul dX0_saturday_33 ?_
      refine x_ldc2 dX0_saturday_34 cX0_133 ?_
      refine x_ladd dX0_saturday_37 ?_
      refine x_ldc2 dX0_saturday_38 cX0_135 ?_
      refine x_lrem dX0_saturday_41 (by decide) ?_
      refine x_l2i dX0_saturday_42 ?_
      refine x_topi (y := nI (drwN (satF a g hl t).1)) (drw_nI hx1) ?_
      refine x_istore_n (ls' := [(1, .int (nI (drwN (satF a g hl t).1))), (3, .int (nI t)), (0, .ref (x + 36)), (2, .int (nI g))]) dX0_saturday_43 (by decide) rfl ?_
      refine x_aload_n dX0_saturday_44 2 rfl ?_
      refine x_get dX0_saturday_45 fX0_20 (hT1.1) rfl ?_
      refine x_get dX0_saturday_48 fX0_57 (hT1.2.1.1) rfl ?_
      refine x_pc (pc' := 51) rfl ?_
      refine x_get dX0_saturday_51 fX0_61 (hT1.2.1.2.1.1) rfl ?_
      refine x_iload_n dX0_saturday_54 1 rfl ?_
      refine x_dup2 dX0_saturday_55 rfl rfl ?_
      refine x_ialdN dX0_saturday_56 (hT1.2.1.2.1.2.2.2.2.2.1) (by omega) (by decide) ?_
      refine x_iload_n dX0_saturday_57 3 rfl ?_
      refine x_ifN_le (tgt := 70) dX0_saturday_58 (by decide) (by omega) (fun c58 => ?_) (fun c58 => ?_)
      · exact absurd c58 (by omega)
      · refine x_iload_n dX0_saturday_61 0 rfl ?_
        refine x_ldc dX0_saturday_62 cX0_137 ?_
        refine x_topi (y := nI 65536) (by decide) ?_
        refine x_idivN dX0_saturday_64 (by omega) (by decide) (by decide) ?_
        refine x_iload_n dX0_saturday_65 3 rfl ?_
        refine x_pc (pc' := 66) rfl ?_
        refine x_iremN dX0_saturday_66 (Nat.lt_of_le_of_lt (Nat.div_le_self _ _) hx2) hg (by omega) ?_
        refine x_goto (tgt := 71) dX0_saturday_67 (by decide) ?_
        refine x_iaddN dX0_saturday_71 ?_
        refine x_iastN dX0_saturday_72 (hT1.2.1.2.1.2.2.2.2.2.1) (by omega) (by decide) ?_
        refine x_iinc (v := nI (t + 1)) (ls' := [(3, .int (nI (t + 1))), (1, .int (nI (drwN (satF a g hl t).1))), (0, .ref (x + 36)), (2, .int (nI g))]) dX0_saturday_73 1 rfl (nIs _) (by decide) rfl ?_
        refine x_goto (tgt := 14) dX0_saturday_76 (by decide) ?_
        refine x_perm (ls' := [(3, .int (nI (t + 1))), (0, .ref (x + 36)), (1, .int (nI (drwN (satF a g hl t).1))), (2, .int (nI g))]) [0, 2, 1, 3] rfl ?_
        exact ih (t + 1) _ (by omega) (hT1.come (by have := Nat.mod_lt (drwN (satF a g hl t).1 / 65536) hg; omega))
theorem Asks_saturday {K : xG} {h x a g : Nat} {hl : xHl} {ru : Option Nat} {rv : Option (List Nat)}  {G0 G : xHp} {r : xRw} {hk : xHl} {rk : xRw} {rt : Option Nat} {ch mo : Int32} (hR : RuleIn G0 ru rv (x + 51)) (hO : HallOk hl) (hc5 : ∀ t, t < hl 0 4 → hl 5 t ≤ 300) (hp2 : ∀ s, s < hl 0 2 → hl 2 s < 200) (ha : a < 2 ^ 31) (hg : 0 < g) (hg2 : g ≤ 61) (hN : DayAt G0 (x + 26) hl r (x + 16) ru) (hT : TrW G0 G x hk rk rt ch mo) : xCall K mX0_saturday 5 0 0 [.ref (x + 36), .int (nI a), .int (nI g)] h G (xEx (fun e : xRw × xHp => (VisEq (satF a g hl (hl 0 4)).2 (goN (satF a g hl (hl 0 4)).2 rv (clearR hl) 400) e.1 ∧ RowOk (satF a g hl (hl 0 4)).2 e.1) ∧ TrW G0 e.2 x (satF a g hl (hl 0 4)).2 e.1 ru ch mo) (fun _ => some (.int (nI (satF a g hl (hl 0 4)).1))) (fun _ => h) (fun e => e.2)) := by
  refine x_entry (by decide) (ls := [(0, .ref (x + 36)), (1, .int (nI a)), (2, .int (nI g))]) rfl (Nat.le_of_ble_eq_true rfl) ?_
  have hNz := hT.now hN
  refine x_aload_n dX0_saturday_0 0 rfl ?_
  refine x_aload_n dX0_saturday_1 0 rfl ?_
  refine x_get dX0_saturday_2 fX0_9 (hT.1) rfl ?_
  refine x_get dX0_saturday_5 fX0_123 (hNz.1) rfl ?_
  refine x_cVe (N := mX0_fromBegin) (d' := 3) (mc := 0) (ms := 0) (cb := 0) (sb := 0) (As := [va_rf ru]) (st := []) dX0_saturday_8 mX0_fromBegin_v lX0_127 rfl rfl (hT.1) rfl (by decide) (Nat.le_of_ble_eq_true rfl) (Asks_fromBegin hN hT) rfl (sf := fun G1 => [.ref (x + 37)]) (fun _ => rfl) (fun G1 hT1 => ?_)
  refine x_pop dX0_saturday_11 rfl ?_
  refine x_iconst dX0_saturday_12 ki_0 ?_
  refine x_istore_n (ls' := [(3, .int (nI 0)), (0, .ref (x + 36)), (1, .int (nI a)), (2, .int (nI g))]) dX0_saturday_13 (by decide) rfl ?_
  exact Asks_sat_loop hR hO hc5 hp2 ha hg hg2 (hl 0 4) 0 G1 (by omega) hT1
