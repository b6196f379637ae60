theorem PH.rk {A A0 : Nat → Nat → Int32} {tp : Nat → Nat} {tn sl : Nat} (h : PH A tp tn sl) (hk : RkC A A0 sl) : PH A0 tp tn sl := ⟨by
  have e : A0 27 = A 27 := by funext j; exact hk 27 j (by omega)
  rw [e]; exact h.1, h.2⟩
theorem osR_any (oa : Nat → Int32) : ∀ n, ∃ os : List Nat, os.length = n ∧ OsR oa os
  | 0 => ⟨[], rfl, fun j hj => absurd hj (by simp)⟩
  | n + 1 => by
    obtain ⟨os, h1, h2⟩ := osR_any oa n
    obtain ⟨v, hv⟩ := nI_surj (oa n)
    refine ⟨v :: os, by simp only [List.length_cons, h1], fun j hj => ?_⟩
    simp only [List.length_cons] at hj ⊢
    cases j with
    | zero =>
      rw [show os.length + 1 - 1 - 0 = n by omega, hv]; rfl
    | succ j =>
      have h3 := h2 j (by omega)
      rw [show os.length + 1 - 1 - (j + 1) = os.length - 1 - j by omega, h3]; rfl
theorem KpA.rf {A : Nat → Nat → Int32} {sl : Nat} : KpA A A sl := ⟨fun _ _ _ _ => rfl, fun _ _ => ⟨rfl, rfl⟩⟩
theorem Md_rule_exit {K : xG} {h y : Nat} {G0 G : xHp} {hl : xHl} {r : xRw} {sc : Nat × Nat × Int32} {A : Nat → Nat → Int32} {F : Nat → Int32} {wa sa : Nat → Int64} {tn : Nat} {sl : Nat} {nn : Nat} {A0 : Nat → Nat → Int32} {RR : xPS} (hsl : sl < 6) (h31 : F 31 = nI sl) (hE : PE G0 G y hl r sc A0 F wa sa tn sl RR) (hk : RkC A A0 sl) (hcs : RR.1 = 0 → CsI A0 sl nn RR.2.2.2 ∧ nn ≤ 12 ∧ RR.2.2.2.length < 300) (hnn : nn ≤ 13) : xV K mX12_rule 12 0 0 h G 47 [(1, .int (nI nn)), (0, .ref y)] [] (xEx (fun e : ((Nat → Nat → Int32) × (Nat → Int32)) × xHp => MW G0 e.2 y hl r sc e.1.1 e.1.2 wa sa ∧ RuK A e.1.1 sl ∧ e.1.2 27 = nI 0 ∧ e.1.2 31 = nI (if (RR).1 = 0 then sl + 1 else sl) ∧ e.1.2 36 = nI 12 ∧ e.1.2 49 = F 49 ∧ ((RR).1 = 0 → ∃ cs, RefR e.1.1 sl cs ∧ (∀ c ∈ cs, ClW c) ∧ (RR).2.2.2 = spC cs)) (fun _ => some (.int (if (RR).1 = 0 then nI sl else -2 - nI (RR).1))) (fun _ => h) (fun e => e.2)) := by
  obtain ⟨hf1, A1, p1, co1, en1, dd1, op1, hM1, hK1, hz1⟩ := hE
  refine x_aload_n dX12_rule_47 1 rfl ?_
  refine x_iconst dX12_rule_48 ki_0 ?_
  refine x_put (fs' := [.int (F 0), .ref (y + 1), .ref (y + 2), .ref (y + 3), .ref (y + 4), .ref (y + 5), .ref (y + 6), .ref (y + 7), .ref (y + 8), .ref (y + 9), .ref (y + 10), .ref (y + 11), .ref (y + 12), .ref (y + 13), .ref (y + 14), .ref (y + 15), .ref (y + 16), .ref (y + 17), .ref (y + 18), .ref (y + 19), .ref (y + 20), .ref (y + 21), .ref (y + 22), .ref (y + 23), .ref (y + 24), .ref (y + 25), .ref (y + 26), .int (nI 0), .int (nI p1), .int (nI ((RR).1)), .int (nI sl), .int (F 31), .int (nI en1), .int (nI dd1), .int (nI co1), .int (nI op1), .int (nI 12), .ref (y + 27), .ref (y + 28), .ref (y + 29), .ref (y + 30), .ref (y + 31), .ref (y + 32), .ref (y + 33), .ref (y + 34), .ref (y + 35), .ref (y + 36), .ref (y + 37), .ref (y + 38), .int (F 49), .int (F 50), .int (F 51), .int (F 52), .int (F 53), .ref (y + 39), .ref (y + 40), .ref (y + 41), .int (F 57), .int (F 58), .ref (y + 42), .ref (y + 43), .ref (y + 44), .ref (y + 45), .int (F 63), .int (F 64)]) dX12_rule_49 fX12_159 (hM1.1) (Nat.le_of_ble_eq_true rfl) rfl rfl rfl ?_
  refine x_geq (G' := xup _ y (modO y (pF (upd F 36 (nI 12)) 0 p1 ((RR).1) sl en1 dd1 co1 op1))) rfl ?_
  have hM101 := hM1.fld (pF (upd F 36 (nI 12)) 0 p1 ((RR).1) sl en1 dd1 co1 op1)
  refine x_aload_n dX12_rule_52 1 rfl ?_
  refine x_get (v := .ref (y + 30)) dX12_rule_53 fX12_102 (hM101.1) rfl ?_
  refine x_aload_n dX12_rule_56 1 rfl ?_
  refine x_get (v := .int (nI sl)) dX12_rule_57 fX12_217 (hM101.1) rfl ?_
  refine x_iload_n dX12_rule_60 0 rfl ?_
  refine x_iastN (n := 6) (f := A1 30) dX12_rule_61 (hM101.c30) (by omega) (by decide) ?_
  have hM102 := hM101.a30 (upd (A1 30) sl (nI nn))
  refine x_pc (pc' := 62) rfl ?_
  refine x_aload_n dX12_rule_62 1 rfl ?_
  refine x_dup dX12_rule_63 rfl ?_
  refine x_get (v := .int (F 31)) dX12_rule_64 fX12_340 (hM102.1) rfl ?_
  refine x_topi (y := nI sl) h31 ?_
  refine x_aload_n dX12_rule_67 1 rfl ?_
  refine x_get (v := .int (nI ((RR).1))) dX12_rule_68 fX12_187 (hM102.1) rfl ?_
  refine x_ifN_ne (tgt := 78) dX12_rule_71 (by decide) (by omega) (fun c71 => ?_) (fun c71 => ?_)
  · refine x_iconst dX12_rule_78 ki_0 ?_
    refine x_iaddN dX12_rule_79 ?_
    refine x_put (fs' := [.int (F 0), .ref (y + 1), .ref (y + 2), .ref (y + 3), .ref (y + 4), .ref (y + 5), .ref (y + 6), .ref (y + 7), .ref (y + 8), .ref (y + 9), .ref (y + 10), .ref (y + 11), .ref (y + 12), .ref (y + 13), .ref (y + 14), .ref (y + 15), .ref (y + 16), .ref (y + 17), .ref (y + 18), .ref (y + 19), .ref (y + 20), .ref (y + 21), .ref (y + 22), .ref (y + 23), .ref (y + 24), .ref (y + 25), .ref (y + 26), .int (nI 0), .int (nI p1), .int (nI ((RR).1)), .int (nI sl), .int (nI (sl + 0)), .int (nI en1), .int (nI dd1), .int (nI co1), .int (nI op1), .int (nI 12), .ref (y + 27), .ref (y + 28), .ref (y + 29), .ref (y + 30), .ref (y + 31), .ref (y + 32), .ref (y + 33), .ref (y + 34), .ref (y + 35), .ref (y + 36), .ref (y + 37), .ref (y + 38), .int (F 49), .int (F 50), .int (F 51), .int (F 52), .int (F 53), .ref (y + 39), .ref (y + 40), .ref (y + 41), .int (F 57), .int (F 58), .ref (y + 42), .ref (y + 43), .ref (y + 44), .ref (y + 45), .int (F 63), .int (F 64)]) dX12_rule_80 fX12_340 (hM102.1) (Nat.le_of_ble_eq_true rfl) rfl rfl rfl ?_
    refine x_geq (G' := xup _ y (modO y (upd (pF (upd F 36 (nI 12)) 0 p1 ((RR).1) sl en1 dd1 co1 op1) 31 (nI (sl + 0))))) rfl ?_
    have hM103 := hM102.fld (upd (pF (upd F 36 (nI 12)) 0 p1 ((RR).1) sl en1 dd1 co1 op1) 31 (nI (sl + 0)))
    refine x_aload_n dX12_rule_83 1 rfl ?_
    refine x_pc (pc' := 84) rfl ?_
    refine x_get (v := .int (nI ((RR).1))) dX12_rule_84 fX12_187 (hM103.1) rfl ?_
    refine x_ifN_le (tgt := 100) dX12_rule_87 (by decide) (by omega) (fun c87 => ?_) (fun c87 => ?_)
    · exact absurd c71 (by omega)
    · refine x_bipush dX12_rule_90 kb_m2 ?_
      refine x_aload_n dX12_rule_92 1 rfl ?_
      refine x_get (v := .int (nI ((RR).1))) dX12_rule_93 fX12_187 (hM103.1) rfl ?_
      refine x_isub dX12_rule_96 ?_
      refine x_goto (tgt := 106) dX12_rule_97 (by decide) ?_
      exact x_iret dX12_rule_106 rfl (xEx_i ((_, _), _) ⟨hM103, RuK.mk hk hK1, rfl, by rw [if_neg c71]; rfl, rfl, rfl, fun q0 => absurd q0 c71⟩ (by rw [if_neg c71]) rfl rfl)
  · refine x_iconst dX12_rule_74 ki_1 ?_
    refine x_goto (tgt := 79) dX12_rule_75 (by decide) ?_
    refine x_iaddN dX12_rule_79 ?_
    refine x_put (fs' := [.int (F 0), .ref (y + 1), .ref (y + 2), .ref (y + 3), .ref (y + 4), .ref (y + 5), .ref (y + 6), .ref (y + 7), .ref (y + 8), .ref (y + 9), .ref (y + 10), .ref (y + 11), .ref (y + 12), .ref (y + 13), .ref (y + 14), .ref (y + 15), .ref (y + 16), .ref (y + 17), .ref (y + 18), .ref (y + 19), .ref (y + 20), .ref (y + 21), .ref (y + 22), .ref (y + 23), .ref (y + 24), .ref (y + 25), .ref (y + 26), .int (nI 0), .int (nI p1), .int (nI ((RR).1)), .int (nI sl), .int (nI (sl + 1)), .int (nI en1), .int (nI dd1), .int (nI co1), .int (nI op1), .int (nI 12), .ref (y + 27), .ref (y + 28), .ref (y + 29), .ref (y + 30), .ref (y + 31), .ref (y + 32), .ref (y + 33), .ref (y + 34), .ref (y + 35), .ref (y + 36), .ref (y + 37), .ref (y + 38), .int (F 49), .int (F 50), .int (F 51), .int (F 52), .int (F 53), .ref (y + 39), .ref (y + 40), .ref (y + 41), .int (F 57), .int (F 58), .ref (y + 42), .ref (y + 43), .ref (y + 44), .ref (y + 45), .int (F 63), .int (F 64)]) dX12_rule_80 fX12_340 (hM102.1) (Nat.le_of_ble_eq_true rfl) rfl rfl rfl ?_
    refine x_geq (G' := xup _ y (modO y (upd (pF (upd F 36 (nI 12)) 0 p1 ((RR).1) sl en1 dd1 co1 op1) 31 (nI (sl + 1))))) rfl ?_
    have hM104 := hM102.fld (upd (pF (upd F 36 (nI 12)) 0 p1 ((RR).1) sl en1 dd1 co1 op1) 31 (nI (sl + 1)))
    refine x_pc (pc' := 83) rfl ?_
    refine x_aload_n dX12_rule_83 1 rfl ?_
    refine x_get (v := .int (nI ((RR).1))) dX12_rule_84 fX12_187 (hM104.1) rfl ?_
    refine x_ifN_le (tgt := 100) dX12_rule_87 (by decide) (by omega) (fun c87 => ?_) (fun c87 => ?_)
    · refine x_aload_n dX12_rule_100 1 rfl ?_
      refine x_get (v := .int (nI (sl + 1))) dX12_rule_101 fX12_340 (hM104.1) rfl ?_
      refine x_iconst dX12_rule_104 ki_1 ?_
      refine x_isubN dX12_rule_105 (by omega) ?_
      obtain ⟨k1, k2, k3⟩ := hcs c71
      exact x_iret dX12_rule_106 rfl (xEx_i ((_, _), _) ⟨hM104, RuK.mk hk hK1, rfl, by rw [if_pos c71]; rfl, rfl, rfl, fun q0 => csI_ref k1 hsl k2 hK1 (hz1 q0) k3 rfl⟩ (by rw [if_pos c71, Nat.add_sub_cancel]) rfl rfl)
    · exact absurd c71 (by omega)
theorem Md_rule_loop {K : xG} {h y : Nat} {G0 : xHp} {hl : xHl} {r : xRw} {sc : Nat × Nat × Int32} {A : Nat → Nat → Int32} {F : Nat → Int32} {wa sa : Nat → Int64} {tn : Nat} {tp : Nat → Nat} {sl : Nat} {RR : xPS} (hH : PH A tp tn sl) (h31 : F 31 = nI sl) : ∀ (k bf : Nat) (s : xPS) (A0 : Nat → Nat → Int32) (os : List Nat) (G1 : xHp), bf + k = 12 → s.1 = 0 → Hb tn 0 s → RkC A A0 sl → CsI A0 sl bf s.2.2.2 → eeR tp tn (rrL tp tn k (bf + 1) (rcP tp tn s bf)) = RR → PR G0 G1 y hl r sc A0 F wa sa tn tp sl 3 0 os s → xV K mX12_rule 12 0 0 h G1 27 [(2, .int (nI 1)), (1, .int (nI bf)), (0, .ref y)] [] (xEx (fun e : ((Nat → Nat → Int32) × (Nat → Int32)) × xHp => MW G0 e.2 y hl r sc e.1.1 e.1.2 wa sa ∧ RuK A e.1.1 sl ∧ e.1.2 27 = nI 0 ∧ e.1.2 31 = nI (if (RR).1 = 0 then sl + 1 else sl) ∧ e.1.2 36 = nI 12 ∧ e.1.2 49 = F 49 ∧ ((RR).1 = 0 → ∃ cs, RefR e.1.1 sl cs ∧ (∀ c ∈ cs, ClW c) ∧ (RR).2.2.2 = spC cs)) (fun _ => some (.int (if (RR).1 = 0 then nI sl else -2 - nI (RR).1))) (fun _ => h) (fun e => e.2)) := by
  intro k
  induction k with
  | zero =>
    intro bf s A0 os G1 hbk h0 hb hkA hcs hr hq1
    have hH0 : PH A0 tp tn sl := hH.rk hkA
    obtain ⟨hT, hlt, htn, hs6⟩ := id hH0
    obtain ⟨hf1, A1, p1, co1, en1, dd1, op1, hM1, hK1, hp1, hc1, hz1⟩ := id hq1
    have hT1 : TpE (A1 27) tp := by rw [hK1.1 27 (by decide) (by decide) (by decide)]; exact hT
    refine x_iload_n dX12_rule_27 0 rfl ?_
    refine x_ifN_eq (tgt := 47) dX12_rule_28 (by decide) (by omega) (fun c28 => ?_) (fun c28 => ?_)
    · exact absurd c28 (by decide)
    · refine x_aload_n dX12_rule_31 2 rfl ?_
      refine x_iload_n dX12_rule_32 1 rfl ?_
      refine x_cVe (N := mX12_ruleClause) (d' := 11) (mc := 0) (ms := 0) (cb := 0) (sb := 0) (As := [.int (nI bf)]) (st := []) dX12_rule_33 mX12_ruleClause_v lX12_343 rfl rfl (hM1.1) rfl (by decide) (Nat.le_of_ble_eq_true rfl) (PR_clause hH0 hq1 h0 hb (by omega)) rfl (sf := fun e2 => []) (fun _ => rfl) (fun e2 hq2x => ?_)
      obtain ⟨A1x, os1, G2⟩ := e2
      obtain ⟨hq2, hkc, hv2⟩ := hq2x
      have hkB : RkC A A1x sl := hkA.kp hkc
      have hH1 : PH A1x tp tn sl := hH.rk hkB
      obtain ⟨hT, hlt, htn, hs6⟩ := id hH1
      change PR G0 G2 y hl r sc A1x F wa sa tn tp sl 3 0 os1 (rcP tp tn s bf) at hq2
      obtain ⟨hf2, A2, p2, co2, en2, dd2, op2, hM2, hK2, hp2, hc2, hz2⟩ := id hq2
      have hT2 : TpE (A2 27) tp := by rw [hK2.1 27 (by decide) (by decide) (by decide)]; exact hT
      refine x_iinc (v := nI (bf + 1)) (ls' := [(1, .int (nI (bf + 1))), (2, .int (nI 1)), (0, .ref y)]) dX12_rule_36 1 rfl (nIs _) (by decide) rfl ?_
      refine x_aload_n dX12_rule_39 2 rfl ?_
      refine x_cVe (N := mX12_goesOn) (d' := 2) (mc := 0) (ms := 0) (cb := 0) (sb := 0) (As := []) (st := []) dX12_rule_40 mX12_goesOn_v lX12_314 rfl rfl (hM2.1) rfl (by decide) (Nat.le_of_ble_eq_true rfl) (PR_goesOn hH1 hq2 (by decide)) rfl (sf := fun G3 => [.int (bI (isS tp tn (rcP tp tn s bf).1 (rcP tp tn s bf).2.1 59))]) (fun _ => rfl) (fun G3 hq3 => ?_)
      refine x_istore_n (ls' := [(2, .int (bI (isS tp tn (rcP tp tn s bf).1 (rcP tp tn s bf).2.1 59))), (1, .int (nI (bf + 1))), (0, .ref y)]) dX12_rule_43 (by decide) rfl ?_
      refine x_pc (pc' := 44) rfl ?_
      refine x_goto (tgt := 27) dX12_rule_44 (by decide) ?_
      rcases hS : isS tp tn (rcP tp tn s bf).1 (rcP tp tn s bf).2.1 59 with _ | _
      · rw [if_neg (by rw [hS]; decide)] at hq3
        have hr2 : eeR tp tn (rcP tp tn s bf) = RR := by rw [rrL_f hS] at hr; exact hr
        rw [hr2] at hq3
        refine x_leq (ls' := [(2, .int (nI 0)), (1, .int (nI (bf + 1))), (0, .ref y)]) rfl ?_
        refine x_iload_n dX12_rule_27 0 rfl ?_
        refine x_ifN_eq (tgt := 47) dX12_rule_28 (by decide) (by omega) (fun c28 => ?_) (fun c28 => ?_)
        · refine x_perm (ls' := [(1, .int (nI (bf + 1))), (0, .ref y)]) [1, 2] rfl ?_
          exact Md_rule_exit hs6 h31 hq3 hkB (fun q0 => by rw [← hr2] at q0 ⊢; have q1 : (rcP tp tn s bf).1 = 0 := (ee_0 q0).1; obtain ⟨g0, g1, g2, g3⟩ := rc_out htn hb q1; exact ⟨csI_step htn hcs hb hkc q1 (hv2 q1), by omega, (show (rcP tp tn s bf).2.2.2.length < 300 from Hb.len htn g2 q1)⟩) (by omega)
        · exact absurd c28 (by decide)
      · rw [if_pos hS] at hq3
        have q1 : (rcP tp tn s bf).1 = 0 := (of_decide_eq_true hS).1
        obtain ⟨g0, g1, g2, g3⟩ := rc_out htn hb q1
        exact absurd g1 (by omega)
  | succ k ih =>
    intro bf s A0 os G1 hbk h0 hb hkA hcs hr hq1
    have hH0 : PH A0 tp tn sl := hH.rk hkA
    obtain ⟨hT, hlt, htn, hs6⟩ := id hH0
    obtain ⟨hf1, A1, p1, co1, en1, dd1, op1, hM1, hK1, hp1, hc1, hz1⟩ := id hq1
    have hT1 : TpE (A1 27) tp := by rw [hK1.1 27 (by decide) (by decide) (by decide)]; exact hT
    refine x_iload_n dX12_rule_27 0 rfl ?_
    refine x_ifN_eq (tgt := 47) dX12_rule_28 (by decide) (by omega) (fun c28 => ?_) (fun c28 => ?_)
    · exact absurd c28 (by decide)
    · refine x_aload_n dX12_rule_31 2 rfl ?_
      refine x_iload_n dX12_rule_32 1 rfl ?_
      refine x_cVe (N := mX12_ruleClause) (d' := 11) (mc := 0) (ms := 0) (cb := 0) (sb := 0) (As := [.int (nI bf)]) (st := []) dX12_rule_33 mX12_ruleClause_v lX12_343 rfl rfl (hM1.1) rfl (by decide) (Nat.le_of_ble_eq_true rfl) (PR_clause hH0 hq1 h0 hb (by omega)) rfl (sf := fun e2 => []) (fun _ => rfl) (fun e2 hq2x => ?_)
      obtain ⟨A1x, os1, G2⟩ := e2
      obtain ⟨hq2, hkc, hv2⟩ := hq2x
      have hkB : RkC A A1x sl := hkA.kp hkc
      have hH1 : PH A1x tp tn sl := hH.rk hkB
      obtain ⟨hT, hlt, htn, hs6⟩ := id hH1
      change PR G0 G2 y hl r sc A1x F wa sa tn tp sl 3 0 os1 (rcP tp tn s bf) at hq2
      obtain ⟨hf2, A2, p2, co2, en2, dd2, op2, hM2, hK2, hp2, hc2, hz2⟩ := id hq2
      have hT2 : TpE (A2 27) tp := by rw [hK2.1 27 (by decide) (by decide) (by decide)]; exact hT
      refine x_iinc (v := nI (bf + 1)) (ls' := [(1, .int (nI (bf + 1))), (2, .int (nI 1)), (0, .ref y)]) dX12_rule_36 1 rfl (nIs _) (by decide) rfl ?_
      refine x_aload_n dX12_rule_39 2 rfl ?_
      refine x_cVe (N := mX12_goesOn) (d' := 2) (mc := 0) (ms := 0) (cb := 0) (sb := 0) (As := []) (st := []) dX12_rule_40 mX12_goesOn_v lX12_314 rfl rfl (hM2.1) rfl (by decide) (Nat.le_of_ble_eq_true rfl) (PR_goesOn hH1 hq2 (by decide)) rfl (sf := fun G3 => [.int (bI (isS tp tn (rcP tp tn s bf).1 (rcP tp tn s bf).2.1 59))]) (fun _ => rfl) (fun G3 hq3 => ?_)
      refine x_istore_n (ls' := [(2, .int (bI (isS tp tn (rcP tp tn s bf).1 (rcP tp tn s bf).2.1 59))), (1, .int (nI (bf + 1))), (0, .ref y)]) dX12_rule_43 (by decide) rfl ?_
      refine x_pc (pc' := 44) rfl ?_
      refine x_goto (tgt := 27) dX12_rule_44 (by decide) ?_
      rcases hS : isS tp tn (rcP tp tn s bf).1 (rcP tp tn s bf).2.1 59 with _ | _
      · rw [if_neg (by rw [hS]; decide)] at hq3
        have hr2 : eeR tp tn (rcP tp tn s bf) = RR := by rw [rrL_f hS] at hr; exact hr
        rw [hr2] at hq3
        refine x_leq (ls' := [(2, .int (nI 0)), (1, .int (nI (bf + 1))), (0, .ref y)]) rfl ?_
        refine x_iload_n dX12_rule_27 0 rfl ?_
        refine x_ifN_eq (tgt := 47) dX12_rule_28 (by decide) (by omega) (fun c28 => ?_) (fun c28 => ?_)
        · refine x_perm (ls' := [(1, .int (nI (bf + 1))), (0, .ref y)]) [1, 2] rfl ?_
          exact Md_rule_exit hs6 h31 hq3 hkB (fun q0 => by rw [← hr2] at q0 ⊢; have q1 : (rcP tp tn s bf).1 = 0 := (ee_0 q0).1; obtain ⟨g0, g1, g2, g3⟩ := rc_out htn hb q1; exact ⟨csI_step htn hcs hb hkc q1 (hv2 q1), by omega, (show (rcP tp tn s bf).2.2.2.length < 300 from Hb.len htn g2 q1)⟩) (by omega)
        · exact absurd c28 (by decide)
      · rw [if_pos hS] at hq3
        have q1 : (rcP tp tn s bf).1 = 0 := (of_decide_eq_true hS).1
        obtain ⟨g0, g1, g2, g3⟩ := rc_out htn hb q1
        refine x_leq (ls' := [(2, .int (nI 1)), (1, .int (nI (bf + 1))), (0, .ref y)]) rfl ?_
        exact ih (bf + 1) (nextP tp tn (rcP tp tn s bf)) A1x os1 G3 (by omega) q1 (Hb.next g2) hkB (csI_step htn hcs hb hkc q1 (hv2 q1)) (by rw [rrL_t hS] at hr; exact hr) hq3
theorem Md_rule_y {K : xG} {h y : Nat} {G0 G : xHp} {hl : xHl} {r : xRw} {sc : Nat × Nat × Int32} {A : Nat → Nat → Int32} {F : Nat → Int32} {wa sa : Nat → Int64} {tn : Nat} {tp : Nat → Nat} {sl : Nat} (hM : MW G0 G y hl r sc A F wa sa) (h27 : F 27 = nI tn) (h36 : F 36 = nI 12) (h31 : F 31 = nI sl) (hH : PH A tp tn sl) : xCall K mX12_rule 12 0 0 [.ref y] h G (xEx (fun e : ((Nat → Nat → Int32) × (Nat → Int32)) × xHp => MW G0 e.2 y hl r sc e.1.1 e.1.2 wa sa ∧ RuK A e.1.1 sl ∧ e.1.2 27 = nI 0 ∧ e.1.2 31 = nI (if (rulP tp tn).1 = 0 then sl + 1 else sl) ∧ e.1.2 36 = nI 12 ∧ e.1.2 49 = F 49 ∧ ((rulP tp tn).1 = 0 → ∃ cs, RefR e.1.1 sl cs ∧ (∀ c ∈ cs, ClW c) ∧ (rulP tp tn).2.2.2 = spC cs)) (fun _ => some (.int (if (rulP tp tn).1 = 0 then nI sl else -2 - nI (rulP tp tn).1))) (fun _ => h) (fun e => e.2)) := by
  refine x_entry (by decide) (ls := [(0, .ref y)]) rfl (Nat.le_of_ble_eq_true rfl) ?_
  obtain ⟨hT, hlt, htn, hs6⟩ := id hH
  obtain ⟨p0, f0, sl0, en0, de0, co0, op0, hM0⟩ := hM.pf h27 h36
  refine x_aload_n dX12_rule_0 0 rfl ?_
  refine x_get (v := .int (F 31)) dX12_rule_1 fX12_340 (hM0.1) rfl ?_
  refine x_topi (y := nI sl) h31 ?_
  refine x_bipush dX12_rule_4 kb_6 ?_
  refine x_icmpN_ne (tgt := 11) dX12_rule_6 (by decide) (by omega) (by omega) (fun c6 => ?_) (fun c6 => ?_)
  · refine x_aload_n dX12_rule_11 0 rfl ?_
    refine x_aload_n dX12_rule_12 0 rfl ?_
    refine x_get (v := .int (F 31)) dX12_rule_13 fX12_340 (hM0.1) rfl ?_
    refine x_topi (y := nI sl) h31 ?_
    refine x_put (fs' := [.int (F 0), .ref (y + 1), .ref (y + 2), .ref (y + 3), .ref (y + 4), .ref (y + 5), .ref (y + 6), .ref (y + 7), .ref (y + 8), .ref (y + 9), .ref (y + 10), .ref (y + 11), .ref (y + 12), .ref (y + 13), .ref (y + 14), .ref (y + 15), .ref (y + 16), .ref (y + 17), .ref (y + 18), .ref (y + 19), .ref (y + 20), .ref (y + 21), .ref (y + 22), .ref (y + 23), .ref (y + 24), .ref (y + 25), .ref (y + 26), .int (nI tn), .int (nI p0), .int (nI f0), .int (nI sl), .int (F 31), .int (nI en0), .int (nI de0), .int (nI co0), .int (nI op0), .int (nI 12), .ref (y + 27), .ref (y + 28), .ref (y + 29), .ref (y + 30), .ref (y + 31), .ref (y + 32), .ref (y + 33), .ref (y + 34), .ref (y + 35), .ref (y + 36), .ref (y + 37), .ref (y + 38), .int (F 49), .int (F 50), .int (F 51), .int (F 52), .int (F 53), .ref (y + 39), .ref (y + 40), .ref (y + 41), .int (F 57), .int (F 58), .ref (y + 42), .ref (y + 43), .ref (y + 44), .ref (y + 45), .int (F 63), .int (F 64)]) dX12_rule_16 fX12_217 (hM0.1) (Nat.le_of_ble_eq_true rfl) rfl rfl rfl ?_
    refine x_geq (G' := xup _ y (modO y (pF (upd F 36 (nI 12)) tn p0 f0 sl en0 de0 co0 op0))) rfl ?_
    have hM101 := hM0.fld (pF (upd F 36 (nI 12)) tn p0 f0 sl en0 de0 co0 op0)
    refine x_aload_n dX12_rule_19 0 rfl ?_
    refine x_pc (pc' := 20) rfl ?_
    refine x_cVe (N := mX12_starts) (d' := 0) (mc := 0) (ms := 0) (cb := 0) (sb := 0) (As := []) (st := []) dX12_rule_20 mX12_starts_v lX12_308 rfl rfl (hM101.1) rfl (by decide) (Nat.le_of_ble_eq_true rfl) (Md_starts hM101) rfl (sf := fun G2 => []) (fun _ => rfl) (fun G2 hN2 => ?_)
    refine x_iconst dX12_rule_23 ki_0 ?_
    refine x_istore_n (ls' := [(1, .int (nI 0)), (0, .ref y)]) dX12_rule_24 (by decide) rfl ?_
    refine x_iconst dX12_rule_25 ki_1 ?_
    refine x_istore_n (ls' := [(2, .int (nI 1)), (1, .int (nI 0)), (0, .ref y)]) dX12_rule_26 (by decide) rfl ?_
    obtain ⟨os, ho1, ho2⟩ := osR_any (A 34) op0
    exact Md_rule_loop hH h31 12 0 (0, 0, 0, []) A os G2 rfl rfl (fun _ => ⟨Nat.zero_le _, by decide, by decide⟩) (fun _ _ _ => rfl) ⟨[], rfl, (fun c hc => absurd hc (by simp)), rfl, trivial⟩ (rul_ee tp tn).symm ⟨by decide, A, 0, 0, 0, 0, op0, hN2, KpA.rf, by omega, by omega, fun _ => ⟨by omega, rfl, rfl, by decide, rfl, rfl, ho1.symm, ho2, (fun j hj => absurd hj (by simp [stE]))⟩⟩
  · exact absurd c6 (by omega)
theorem Md_rule_n {K : xG} {h y : Nat} {G0 G : xHp} {hl : xHl} {r : xRw} {sc : Nat × Nat × Int32} {A : Nat → Nat → Int32} {F : Nat → Int32} {wa sa : Nat → Int64} (hM : MW G0 G y hl r sc A F wa sa) (h31 : F 31 = nI 6) : xCall K mX12_rule 12 0 0 [.ref y] h G (xRet (some (.int (-1))) h G) := by
  refine x_entry (by decide) (ls := [(0, .ref y)]) rfl (Nat.le_of_ble_eq_true rfl) ?_
  refine x_aload_n dX12_rule_0 0 rfl ?_
  refine x_get (v := .int (F 31)) dX12_rule_1 fX12_340 (hM.1) rfl ?_
  refine x_topi (y := nI 6) h31 ?_
  refine x_bipush dX12_rule_4 kb_6 ?_
  refine x_icmpN_ne (tgt := 11) dX12_rule_6 (by decide) (by omega) (by omega) (fun c6 => ?_) (fun c6 => ?_)
  · exact absurd c6 (by decide)
  · refine x_iconst dX12_rule_9 ki_m1 ?_
    exact x_iret dX12_rule_10 rfl (xRet_i)
