theorem Rr_put {K : xG} {h b tx n : Nat} {G0 G : xHp} {tp : Nat → Nat} {s : xPS} {k op : Nat} (hW : RRd G0 G b tx n tp s) (hk : k < 2048) (hop : op < 1048576) : xCall K mX9_putStep 0 0 0 [.ref b, .int (nI k), .int (nI op)] h G (rrQ G0 h b tx n tp none (putP s k op)) := by
  refine x_entry (by decide) (ls := [(0, .ref b), (1, .int (nI k)), (2, .int (nI op))]) rfl (Nat.le_of_ble_eq_true rfl) ?_
  obtain ⟨w1, w2, ⟨st, w3, w4⟩, w5, w6, w7, w8, w9⟩ := hW
  refine x_aload_n dX9_putStep_0 0 rfl ?_
  refine x_get dX9_putStep_1 fX9_24 (w2) rfl ?_
  refine x_aload_n dX9_putStep_4 0 rfl ?_
  refine x_get dX9_putStep_5 fX9_9 (w2) rfl ?_
  refine x_alen dX9_putStep_8 (by decide) (w3) ?_
  refine x_icmpN_ge (tgt := 37) dX9_putStep_9 (by decide) (by omega) (by omega) (fun c9 => ?_) (fun c9 => ?_)
  · exact x_vret dX9_putStep_37 rfl (xEx_i G (by unfold putP; rw [if_neg (by omega)]; exact ⟨w1, w2, ⟨st, w3, w4⟩, w5, w6, w7, w8, w9⟩) rfl rfl rfl)
  · refine x_aload_n dX9_putStep_12 0 rfl ?_
    refine x_get dX9_putStep_13 fX9_9 (w2) rfl ?_
    refine x_aload_n dX9_putStep_16 0 rfl ?_
    refine x_pc (pc' := 17) rfl ?_
    refine x_get dX9_putStep_17 fX9_24 (w2) rfl ?_
    refine x_iload_n dX9_putStep_20 1 rfl ?_
    refine x_bipush dX9_putStep_21 kb_20 ?_
    refine x_ishl dX9_putStep_23 ?_
    refine x_iload_n dX9_putStep_24 2 rfl ?_
    refine x_ior dX9_putStep_25 ?_
    refine x_topi (y := nI (k * 1048576 + op)) (step_or hk hop) ?_
    refine x_iastN dX9_putStep_26 (w3) (by omega) (by decide) ?_
    refine x_aload_n dX9_putStep_27 0 rfl ?_
    refine x_dup dX9_putStep_28 rfl ?_
    refine x_get dX9_putStep_29 fX9_24 (xup_of (by omega) (w2)) rfl ?_
    refine x_pc (pc' := 32) rfl ?_
    refine x_iconst dX9_putStep_32 ki_1 ?_
    refine x_iaddN dX9_putStep_33 ?_
    refine x_put (fs' := [.ref (b + 2), .ref (b + 1), .int (nI (s.2.2.2.length + 1)), .int (nI s.2.2.1)]) dX9_putStep_34 fX9_24 (xup_of (by omega) (w2)) (Nat.le_of_ble_eq_true rfl) rfl rfl rfl ?_
    exact x_vret dX9_putStep_37 rfl (xEx_i _ (by unfold putP; rw [if_pos c9]; exact ⟨w1.fr (by rw [xup_ne (by omega), xup_ne (by omega)]) (by rw [xup_ne (by omega), xup_ne (by omega)]), (xup_eq).trans (by simp), ⟨_, xup_of (by omega) (xup_eq), put_get w4⟩, by simp; omega, put_all w6 (by omega), w7, fun a ha => by rw [xup_ne (by omega), xup_ne (by omega)]; exact w8 a ha, w9⟩) rfl rfl rfl)
theorem Rr_step_o {K : xG} {h b tx n : Nat} {G0 G : xHp} {tp : Nat → Nat} {s : xPS} (hW : RRd G0 G b tx n tp s) (h0 : s.1 = 0) : xCall K mX9_stepAtHand 0 0 0 [.ref b] h G (xRet (some (.int (chI (stpP tp n s)))) h G) := by
  refine x_entry (by decide) (ls := [(0, .ref b)]) rfl (Nat.le_of_ble_eq_true rfl) ?_
  have hR := hW.1
  rw [h0] at hR
  have hok := hR.ok
  have s3 := kd_lt tp n (skP tp n s.2.1)
  have s4 := sg_lt hR.2.2.2.1 n (skP tp n s.2.1)
  refine x_aload_n dX9_stepAtHand_0 0 rfl ?_
  refine x_get dX9_stepAtHand_1 fX9_20 (hW.2.1) rfl ?_
  refine x_get dX9_stepAtHand_4 fX9_97 (hok) rfl ?_
  refine x_iconst dX9_stepAtHand_7 ki_3 ?_
  refine x_icmpN_eq (tgt := 13) dX9_stepAtHand_8 (by decide) (by omega) (by omega) (fun c8 => ?_) (fun c8 => ?_)
  · refine x_aload_n dX9_stepAtHand_13 0 rfl ?_
    refine x_get dX9_stepAtHand_14 fX9_20 (hW.2.1) rfl ?_
    refine x_get dX9_stepAtHand_17 fX9_100 (hok) rfl ?_
    by_cases c20_37 : (sgA tp n (skP tp n s.2.1)) = 37
    · refine x_lookup (tgt := 120) (off := 100) dX9_stepAtHand_20 (by decide) (by rw [c20_37]; decide) (by decide) ?_
      refine x_pc (pc' := 120) rfl ?_
      refine x_bipush dX9_stepAtHand_120 kb_6 ?_
      exact x_iret dX9_stepAtHand_122 rfl (xRet_e (by unfold stpP; rw [if_pos ⟨h0, c8⟩, c20_37]; rfl) rfl)
    by_cases c20_42 : (sgA tp n (skP tp n s.2.1)) = 42
    · refine x_lookup (tgt := 116) (off := 96) dX9_stepAtHand_20 (by decide) (by rw [c20_42]; decide) (by decide) ?_
      refine x_pc (pc' := 116) rfl ?_
      refine x_iconst dX9_stepAtHand_116 ki_4 ?_
      exact x_iret dX9_stepAtHand_117 rfl (xRet_e (by unfold stpP; rw [if_pos ⟨h0, c8⟩, c20_42]; rfl) rfl)
    by_cases c20_43 : (sgA tp n (skP tp n s.2.1)) = 43
    · refine x_lookup (tgt := 112) (off := 92) dX9_stepAtHand_20 (by decide) (by rw [c20_43]; decide) (by decide) ?_
      refine x_pc (pc' := 112) rfl ?_
      refine x_iconst dX9_stepAtHand_112 ki_2 ?_
      exact x_iret dX9_stepAtHand_113 rfl (xRet_e (by unfold stpP; rw [if_pos ⟨h0, c8⟩, c20_43]; rfl) rfl)
    by_cases c20_45 : (sgA tp n (skP tp n s.2.1)) = 45
    · refine x_lookup (tgt := 114) (off := 94) dX9_stepAtHand_20 (by decide) (by rw [c20_45]; decide) (by decide) ?_
      refine x_pc (pc' := 114) rfl ?_
      refine x_iconst dX9_stepAtHand_114 ki_3 ?_
      exact x_iret dX9_stepAtHand_115 rfl (xRet_e (by unfold stpP; rw [if_pos ⟨h0, c8⟩, c20_45]; rfl) rfl)
    by_cases c20_47 : (sgA tp n (skP tp n s.2.1)) = 47
    · refine x_lookup (tgt := 118) (off := 98) dX9_stepAtHand_20 (by decide) (by rw [c20_47]; decide) (by decide) ?_
      refine x_pc (pc' := 118) rfl ?_
      refine x_iconst dX9_stepAtHand_118 ki_5 ?_
      exact x_iret dX9_stepAtHand_119 rfl (xRet_e (by unfold stpP; rw [if_pos ⟨h0, c8⟩, c20_47]; rfl) rfl)
    by_cases c20_60 : (sgA tp n (skP tp n s.2.1)) = 60
    · refine x_lookup (tgt := 123) (off := 103) dX9_stepAtHand_20 (by decide) (by rw [c20_60]; decide) (by decide) ?_
      refine x_pc (pc' := 123) rfl ?_
      refine x_bipush dX9_stepAtHand_123 kb_7 ?_
      exact x_iret dX9_stepAtHand_125 rfl (xRet_e (by unfold stpP; rw [if_pos ⟨h0, c8⟩, c20_60]; rfl) rfl)
    by_cases c20_61 : (sgA tp n (skP tp n s.2.1)) = 61
    · refine x_lookup (tgt := 129) (off := 109) dX9_stepAtHand_20 (by decide) (by rw [c20_61]; decide) (by decide) ?_
      refine x_pc (pc' := 129) rfl ?_
      refine x_bipush dX9_stepAtHand_129 kb_9 ?_
      exact x_iret dX9_stepAtHand_131 rfl (xRet_e (by unfold stpP; rw [if_pos ⟨h0, c8⟩, c20_61]; rfl) rfl)
    by_cases c20_62 : (sgA tp n (skP tp n s.2.1)) = 62
    · refine x_lookup (tgt := 135) (off := 115) dX9_stepAtHand_20 (by decide) (by rw [c20_62]; decide) (by decide) ?_
      refine x_pc (pc' := 135) rfl ?_
      refine x_bipush dX9_stepAtHand_135 kb_11 ?_
      exact x_iret dX9_stepAtHand_137 rfl (xRet_e (by unfold stpP; rw [if_pos ⟨h0, c8⟩, c20_62]; rfl) rfl)
    by_cases c20_316 : (sgA tp n (skP tp n s.2.1)) = 316
    · refine x_lookup (tgt := 126) (off := 106) dX9_stepAtHand_20 (by decide) (by rw [c20_316]; decide) (by decide) ?_
      refine x_pc (pc' := 126) rfl ?_
      refine x_bipush dX9_stepAtHand_126 kb_8 ?_
      exact x_iret dX9_stepAtHand_128 rfl (xRet_e (by unfold stpP; rw [if_pos ⟨h0, c8⟩, c20_316]; rfl) rfl)
    by_cases c20_318 : (sgA tp n (skP tp n s.2.1)) = 318
    · refine x_lookup (tgt := 132) (off := 112) dX9_stepAtHand_20 (by decide) (by rw [c20_318]; decide) (by decide) ?_
      refine x_pc (pc' := 132) rfl ?_
      refine x_bipush dX9_stepAtHand_132 kb_10 ?_
      exact x_iret dX9_stepAtHand_134 rfl (xRet_e (by unfold stpP; rw [if_pos ⟨h0, c8⟩, c20_318]; rfl) rfl)
    refine x_lookup (tgt := 138) (off := 118) dX9_stepAtHand_20 (by decide) (by rw [nI_toInt (by omega)]; show Op.lookupswitch.offset [(37, 100), (42, 96), (43, 92), (45, 94), (47, 98), (60, 103), (61, 109), (62, 115), (316, 106), (318, 112)] 118 _ = 118; rw [Op.lookupswitch.offset_cons, if_neg (by omega), Op.lookupswitch.offset_cons, if_neg (by omega), Op.lookupswitch.offset_cons, if_neg (by omega), Op.lookupswitch.offset_cons, if_neg (by omega), Op.lookupswitch.offset_cons, if_neg (by omega), Op.lookupswitch.offset_cons, if_neg (by omega), Op.lookupswitch.offset_cons, if_neg (by omega), Op.lookupswitch.offset_cons, if_neg (by omega), Op.lookupswitch.offset_cons, if_neg (by omega), Op.lookupswitch.offset_cons, if_neg (by omega)]; rfl) (by decide) ?_
    refine x_pc (pc' := 138) rfl ?_
    refine x_iconst dX9_stepAtHand_138 ki_m1 ?_
    exact x_iret dX9_stepAtHand_139 rfl (xRet_e (by unfold stpP; rw [if_pos ⟨h0, c8⟩]; unfold sgK; rw [if_neg c20_37, if_neg c20_42, if_neg c20_43, if_neg c20_45, if_neg c20_47, if_neg c20_60, if_neg c20_61, if_neg c20_62, if_neg c20_316, if_neg c20_318]; rfl) rfl)
  · refine x_iconst dX9_stepAtHand_11 ki_m1 ?_
    exact x_iret dX9_stepAtHand_12 rfl (xRet_e (by unfold stpP; rw [if_neg (fun q => c8 q.2)]; rfl) rfl)
theorem Rr_step_b {K : xG} {h b tx n : Nat} {G0 G : xHp} {tp : Nat → Nat} {s : xPS} (hW : RRd G0 G b tx n tp s) (h0 : s.1 ≠ 0) : xCall K mX9_stepAtHand 0 0 0 [.ref b] h G (xRet (some (.int (chI (stpP tp n s)))) h G) := by
  refine x_entry (by decide) (ls := [(0, .ref b)]) rfl (Nat.le_of_ble_eq_true rfl) ?_
  obtain ⟨pl, sg, nm, hb⟩ := hW.1.bad h0
  refine x_aload_n dX9_stepAtHand_0 0 rfl ?_
  refine x_get dX9_stepAtHand_1 fX9_20 (hW.2.1) rfl ?_
  refine x_get dX9_stepAtHand_4 fX9_97 (hb) rfl ?_
  refine x_iconst dX9_stepAtHand_7 ki_3 ?_
  refine x_icmpN_eq (tgt := 13) dX9_stepAtHand_8 (by decide) (by omega) (by omega) (fun c8 => ?_) (fun c8 => ?_)
  · exact absurd c8 (by decide)
  · refine x_iconst dX9_stepAtHand_11 ki_m1 ?_
    exact x_iret dX9_stepAtHand_12 rfl (xRet_e (by unfold stpP; rw [if_neg (fun q => h0 q.1)]; rfl) rfl)
theorem Rr_step {K : xG} {h b tx n : Nat} {G0 G : xHp} {tp : Nat → Nat} {s : xPS} (hW : RRd G0 G b tx n tp s) : xCall K mX9_stepAtHand 0 0 0 [.ref b] h G (xRet (some (.int (chI (stpP tp n s)))) h G) := by
  by_cases h0 : s.1 = 0
  · exact Rr_step_o hW h0
  · exact Rr_step_b hW h0
theorem Rr_value_o {K : xG} {h b tx n : Nat} {G0 G : xHp} {tp : Nat → Nat} {s : xPS} (hW : RRd G0 G b tx n tp s) (h0 : s.1 = 0) : xCall K mX9_readValue 5 0 0 [.ref b] h G (rrQ G0 h b tx n tp none (valP tp n s)) := by
  refine x_entry (by decide) (ls := [(0, .ref b)]) rfl (Nat.le_of_ble_eq_true rfl) ?_
  have htx := hW.2.2.2.2.2.2.2
  have hcn := hW.2.2.2.2.2.1
  have hR := hW.1
  rw [h0] at hR
  have hok := hR.ok
  have s3 := kd_lt tp n (skP tp n s.2.1)
  refine x_aload_n dX9_readValue_0 0 rfl ?_
  refine x_get dX9_readValue_1 fX9_20 (hW.2.1) rfl ?_
  refine x_ldcS 6 (by decide) rfl rfl dX9_readValue_4 ?_
  refine x_cV (N := mX7_wordIn) (d' := 4) (mc := 0) (ms := 0) (cb := 0) (sb := 0) (As := [.ref (K.2.2.2.2.1 6)]) (st := []) dX9_readValue_6 mX7_wordIn_v lX9_105 rfl rfl (hok) rfl (by decide) (Nat.le_of_ble_eq_true rfl) (Rd_wordIn hW.1 (by omega) (by decide)) rfl (st1 := [.int (chI (wiO tp n s.1 s.2.1 (wl 6)))]) rfl ?_
  refine x_istore_n (ls' := [(1, .int (chI (wiO tp n s.1 s.2.1 (wl 6)))), (0, .ref b)]) dX9_readValue_9 (by decide) rfl ?_
  rcases hw : wiO tp n s.1 s.2.1 (wl 6) with _ | w
  · refine x_leq (ls' := [(1, .int (-1)), (0, .ref b)]) rfl ?_
    refine x_iload_n dX9_readValue_10 0 rfl ?_
    refine x_iconst dX9_readValue_11 ki_m1 ?_
    refine x_icmp_ne (x := (-1)) (y := (-1)) (tgt := 37) dX9_readValue_12 (by decide) (fun c12 => ?_) (fun c12 => ?_)
    · exact absurd rfl c12
    · refine x_aload_n dX9_readValue_15 1 rfl ?_
      refine x_pc (pc' := 16) rfl ?_
      refine x_get dX9_readValue_16 fX9_20 (hW.2.1) rfl ?_
      refine x_get dX9_readValue_19 fX9_97 (hok) rfl ?_
      refine x_iconst dX9_readValue_22 ki_2 ?_
      refine x_icmpN_eq (tgt := 37) dX9_readValue_23 (by decide) (by omega) (by omega) (fun c23 => ?_) (fun c23 => ?_)
      · refine x_aload_n dX9_readValue_37 1 rfl ?_
        refine x_get dX9_readValue_38 fX9_20 (hW.2.1) rfl ?_
        refine x_get dX9_readValue_41 fX9_109 (hok) rfl ?_
        refine x_iconst dX9_readValue_44 ki_m1 ?_
        refine x_icmp_ne (x := nmA tp n (skP tp n s.2.1)) (y := (-1)) (tgt := 59) dX9_readValue_45 (by decide) (fun c45 => ?_) (fun c45 => ?_)
        · refine x_aload_n dX9_readValue_59 1 rfl ?_
          refine x_pc (pc' := 60) rfl ?_
          refine x_get dX9_readValue_60 fX9_28 (hW.2.1) rfl ?_
          refine x_bipush dX9_readValue_63 kb_60 ?_
          refine x_icmpN_lt (tgt := 79) dX9_readValue_65 (by decide) (by omega) (by omega) (fun c65 => ?_) (fun c65 => ?_)
          · refine x_aload_n dX9_readValue_79 1 rfl ?_
            refine x_dup dX9_readValue_80 rfl ?_
            refine x_get dX9_readValue_81 fX9_28 (hW.2.1) rfl ?_
            refine x_iconst dX9_readValue_84 ki_1 ?_
            refine x_iaddN dX9_readValue_85 ?_
            refine x_put (fs' := [.ref (b + 2), .ref (b + 1), .int (nI s.2.2.2.length), .int (nI (s.2.2.1 + 1))]) dX9_readValue_86 fX9_28 (hW.2.1) (Nat.le_of_ble_eq_true rfl) rfl rfl rfl ?_
            have hW2 := hW.cnt c65
            obtain ⟨nm1, nm2⟩ := nm_num c23 c45
            refine x_iload_n dX9_readValue_89 0 rfl ?_
            refine x_pc (pc' := 90) rfl ?_
            refine x_iconst dX9_readValue_90 ki_m1 ?_
            refine x_icmp_ne (x := (-1)) (y := (-1)) (tgt := 109) dX9_readValue_91 (by decide) (fun c91 => ?_) (fun c91 => ?_)
            · exact absurd rfl c91
            · refine x_aload_n dX9_readValue_94 1 rfl ?_
              refine x_iconst dX9_readValue_95 ki_0 ?_
              refine x_aload_n dX9_readValue_96 1 rfl ?_
              refine x_get dX9_readValue_97 fX9_20 (hW2.2.1) rfl ?_
              refine x_get dX9_readValue_100 fX9_109 (xup_of (by omega) hok) rfl ?_
              refine x_topi (y := nI (nmN tp n s.2.1)) nm1 ?_
              refine x_cVe (N := mX9_putStep) (d' := 0) (mc := 0) (ms := 0) (cb := 0) (sb := 0) (As := [.int (nI 0), .int (nI (nmN tp n s.2.1))]) (st := []) dX9_readValue_103 mX9_putStep_v lX9_77 rfl rfl (hW2.2.1) rfl (by decide) (Nat.le_of_ble_eq_true rfl) (Rr_put hW2 (by decide) (by omega)) rfl (sf := fun G3 => []) (fun _ => rfl) (fun G3 hW3 => ?_)
              obtain ⟨u23, u33, u43, u53, u63, hc3⟩ := hW3.1.cell
              refine x_goto (tgt := 115) dX9_readValue_106 (by decide) ?_
              refine x_aload_n dX9_readValue_115 1 rfl ?_
              refine x_pc (pc' := 116) rfl ?_
              refine x_get dX9_readValue_116 fX9_20 (hW3.2.1) rfl ?_
              refine x_cVe (N := mX7_next) (d' := 0) (mc := 0) (ms := 0) (cb := 0) (sb := 0) (As := []) (st := []) dX9_readValue_119 mX7_next_v lX9_42 rfl rfl (hc3) rfl (by decide) (Nat.le_of_ble_eq_true rfl) (hW3.nx (putP_f.1.trans h0)) rfl (sf := fun G4 => []) (fun _ => rfl) (fun G4 hW4 => ?_)
              exact x_vret dX9_readValue_122 rfl (xEx_i G4 (by unfold valP; rw [hw]; simp only; rw [if_neg (fun q => q ⟨h0, c23⟩), if_neg c45, if_neg (by omega)]; exact hW4) rfl rfl rfl)
          · refine x_aload_n dX9_readValue_68 1 rfl ?_
            refine x_get dX9_readValue_69 fX9_20 (hW.2.1) rfl ?_
            refine x_iconst dX9_readValue_72 ki_3 ?_
            refine x_cVe (N := mX7_fail) (d' := 0) (mc := 0) (ms := 0) (cb := 0) (sb := 0) (As := [.int (nI 3)]) (st := []) dX9_readValue_73 mX7_fail_v lX9_66 rfl rfl (hok) rfl (by decide) (Nat.le_of_ble_eq_true rfl) (hW.fl (by decide)) rfl (sf := fun G1 => []) (fun _ => rfl) (fun G1 hW1 => ?_)
            refine x_goto (tgt := 122) dX9_readValue_76 (by decide) ?_
            exact x_vret dX9_readValue_122 rfl (xEx_i G1 (by unfold valP; rw [hw]; simp only; rw [if_neg (fun q => q ⟨h0, c23⟩), if_neg c45, if_pos c65]; exact hW1) rfl rfl rfl)
        · refine x_aload_n dX9_readValue_48 1 rfl ?_
          refine x_pc (pc' := 49) rfl ?_
          refine x_get dX9_readValue_49 fX9_20 (hW.2.1) rfl ?_
          refine x_iconst dX9_readValue_52 ki_1 ?_
          refine x_cVe (N := mX7_fail) (d' := 0) (mc := 0) (ms := 0) (cb := 0) (sb := 0) (As := [.int (nI 1)]) (st := []) dX9_readValue_53 mX7_fail_v lX9_66 rfl rfl (hok) rfl (by decide) (Nat.le_of_ble_eq_true rfl) (hW.fl (by decide)) rfl (sf := fun G1 => []) (fun _ => rfl) (fun G1 hW1 => ?_)
          refine x_goto (tgt := 122) dX9_readValue_56 (by decide) ?_
          exact x_vret dX9_readValue_122 rfl (xEx_i G1 (by unfold valP; rw [hw]; simp only; rw [if_neg (fun q => q ⟨h0, c23⟩), if_pos c45]; exact hW1) rfl rfl rfl)
      · refine x_aload_n dX9_readValue_26 1 rfl ?_
        refine x_get dX9_readValue_27 fX9_20 (hW.2.1) rfl ?_
        refine x_iconst dX9_readValue_30 ki_0 ?_
        refine x_cVe (N := mX7_fail) (d' := 0) (mc := 0) (ms := 0) (cb := 0) (sb := 0) (As := [.int (nI 0)]) (st := []) dX9_readValue_31 mX7_fail_v lX9_66 rfl rfl (hok) rfl (by decide) (Nat.le_of_ble_eq_true rfl) (hW.fl (by decide)) rfl (sf := fun G1 => []) (fun _ => rfl) (fun G1 hW1 => ?_)
        refine x_goto (tgt := 122) dX9_readValue_34 (by decide) ?_
        exact x_vret dX9_readValue_122 rfl (xEx_i G1 (by unfold valP; rw [hw]; simp only; rw [if_pos (fun q => c23 q.2)]; exact hW1) rfl rfl rfl)
  · refine x_leq (ls' := [(1, .int (nI w)), (0, .ref b)]) rfl ?_
    have hw3 := wiO_cnt hw
    rw [wl6_cnt] at hw3
    obtain ⟨-, hk1, hw11⟩ := hw3
    have hnm : nmA tp n (skP tp n s.2.1) = nI 0 := nm_n (by rw [hk1]; decide)
    refine x_iload_n dX9_readValue_10 0 rfl ?_
    refine x_iconst dX9_readValue_11 ki_m1 ?_
    refine x_icmp_ne (x := nI w) (y := (-1)) (tgt := 37) dX9_readValue_12 (by decide) (fun c12 => ?_) (fun c12 => ?_)
    · refine x_aload_n dX9_readValue_37 1 rfl ?_
      refine x_pc (pc' := 38) rfl ?_
      refine x_get dX9_readValue_38 fX9_20 (hW.2.1) rfl ?_
      refine x_get dX9_readValue_41 fX9_109 (hok) rfl ?_
      refine x_iconst dX9_readValue_44 ki_m1 ?_
      refine x_icmp_ne (x := nmA tp n (skP tp n s.2.1)) (y := (-1)) (tgt := 59) dX9_readValue_45 (by decide) (fun c45 => ?_) (fun c45 => ?_)
      · refine x_aload_n dX9_readValue_59 1 rfl ?_
        refine x_get dX9_readValue_60 fX9_28 (hW.2.1) rfl ?_
        refine x_bipush dX9_readValue_63 kb_60 ?_
        refine x_icmpN_lt (tgt := 79) dX9_readValue_65 (by decide) (by omega) (by omega) (fun c65 => ?_) (fun c65 => ?_)
        · refine x_aload_n dX9_readValue_79 1 rfl ?_
          refine x_dup dX9_readValue_80 rfl ?_
          refine x_pc (pc' := 81) rfl ?_
          refine x_get dX9_readValue_81 fX9_28 (hW.2.1) rfl ?_
          refine x_iconst dX9_readValue_84 ki_1 ?_
          refine x_iaddN dX9_readValue_85 ?_
          refine x_put (fs' := [.ref (b + 2), .ref (b + 1), .int (nI s.2.2.2.length), .int (nI (s.2.2.1 + 1))]) dX9_readValue_86 fX9_28 (hW.2.1) (Nat.le_of_ble_eq_true rfl) rfl rfl rfl ?_
          have hW2 := hW.cnt c65
          refine x_iload_n dX9_readValue_89 0 rfl ?_
          refine x_iconst dX9_readValue_90 ki_m1 ?_
          refine x_icmp_ne (x := nI w) (y := (-1)) (tgt := 109) dX9_readValue_91 (by decide) (fun c91 => ?_) (fun c91 => ?_)
          · refine x_aload_n dX9_readValue_109 1 rfl ?_
            refine x_iconst dX9_readValue_110 ki_1 ?_
            refine x_iload_n dX9_readValue_111 0 rfl ?_
            refine x_pc (pc' := 112) rfl ?_
            refine x_cVe (N := mX9_putStep) (d' := 0) (mc := 0) (ms := 0) (cb := 0) (sb := 0) (As := [.int (nI 1), .int (nI w)]) (st := []) dX9_readValue_112 mX9_putStep_v lX9_77 rfl rfl (hW2.2.1) rfl (by decide) (Nat.le_of_ble_eq_true rfl) (Rr_put hW2 (by decide) (by omega)) rfl (sf := fun G3 => []) (fun _ => rfl) (fun G3 hW3 => ?_)
            obtain ⟨u23, u33, u43, u53, u63, hc3⟩ := hW3.1.cell
            refine x_aload_n dX9_readValue_115 1 rfl ?_
            refine x_get dX9_readValue_116 fX9_20 (hW3.2.1) rfl ?_
            refine x_cVe (N := mX7_next) (d' := 0) (mc := 0) (ms := 0) (cb := 0) (sb := 0) (As := []) (st := []) dX9_readValue_119 mX7_next_v lX9_42 rfl rfl (hc3) rfl (by decide) (Nat.le_of_ble_eq_true rfl) (hW3.nx (putP_f.1.trans h0)) rfl (sf := fun G4 => []) (fun _ => rfl) (fun G4 hW4 => ?_)
            exact x_vret dX9_readValue_122 rfl (xEx_i G4 (by unfold valP; rw [hw]; simp only; rw [if_neg (by omega)]; exact hW4) rfl rfl rfl)
          · exact absurd c91 (nI_ne1 (by omega))
        · refine x_aload_n dX9_readValue_68 1 rfl ?_
          refine x_get dX9_readValue_69 fX9_20 (hW.2.1) rfl ?_
          refine x_pc (pc' := 72) rfl ?_
          refine x_iconst dX9_readValue_72 ki_3 ?_
          refine x_cVe (N := mX7_fail) (d' := 0) (mc := 0) (ms := 0) (cb := 0) (sb := 0) (As := [.int (nI 3)]) (st := []) dX9_readValue_73 mX7_fail_v lX9_66 rfl rfl (hok) rfl (by decide) (Nat.le_of_ble_eq_true rfl) (hW.fl (by decide)) rfl (sf := fun G1 => []) (fun _ => rfl) (fun G1 hW1 => ?_)
          refine x_goto (tgt := 122) dX9_readValue_76 (by decide) ?_
          exact x_vret dX9_readValue_122 rfl (xEx_i G1 (by unfold valP; rw [hw]; simp only; rw [if_pos c65]; exact hW1) rfl rfl rfl)
      · rw [hnm] at c45
        exact absurd c45 (by decide)
    · exact absurd c12 (nI_ne1 (by omega))
theorem Rr_value_b {K : xG} {h b tx n : Nat} {G0 G : xHp} {tp : Nat → Nat} {s : xPS} (hW : RRd G0 G b tx n tp s) (h0 : s.1 ≠ 0) : xCall K mX9_readValue 5 0 0 [.ref b] h G (rrQ G0 h b tx n tp none (valP tp n s)) := by
  refine x_entry (by decide) (ls := [(0, .ref b)]) rfl (Nat.le_of_ble_eq_true rfl) ?_
  have htx := hW.2.2.2.2.2.2.2
  have hcn := hW.2.2.2.2.2.1
  have hw : wiO tp n s.1 s.2.1 (wl 6) = none := by unfold wiO; rw [if_neg (fun q => h0 q.1)]
  obtain ⟨pl, sg, nm, hb⟩ := hW.1.bad h0
  refine x_aload_n dX9_readValue_0 0 rfl ?_
  refine x_get dX9_readValue_1 fX9_20 (hW.2.1) rfl ?_
  refine x_ldcS 6 (by decide) rfl rfl dX9_readValue_4 ?_
  refine x_cV (N := mX7_wordIn) (d' := 4) (mc := 0) (ms := 0) (cb := 0) (sb := 0) (As := [.ref (K.2.2.2.2.1 6)]) (st := []) dX9_readValue_6 mX7_wordIn_v lX9_105 rfl rfl (hb) rfl (by decide) (Nat.le_of_ble_eq_true rfl) (Rd_wordIn hW.1 (by omega) (by decide)) rfl (st1 := [.int (chI (wiO tp n s.1 s.2.1 (wl 6)))]) rfl ?_
  refine x_istore_n (ls' := [(1, .int (chI (wiO tp n s.1 s.2.1 (wl 6)))), (0, .ref b)]) dX9_readValue_9 (by decide) rfl ?_
  refine x_leq (ls' := [(1, .int (-1)), (0, .ref b)]) (by rw [hw]; rfl) ?_
  refine x_iload_n dX9_readValue_10 0 rfl ?_
  refine x_iconst dX9_readValue_11 ki_m1 ?_
  refine x_icmp_ne (x := (-1)) (y := (-1)) (tgt := 37) dX9_readValue_12 (by decide) (fun c12 => ?_) (fun c12 => ?_)
  · exact absurd rfl c12
  · refine x_aload_n dX9_readValue_15 1 rfl ?_
    refine x_pc (pc' := 16) rfl ?_
    refine x_get dX9_readValue_16 fX9_20 (hW.2.1) rfl ?_
    refine x_get dX9_readValue_19 fX9_97 (hb) rfl ?_
    refine x_iconst dX9_readValue_22 ki_2 ?_
    refine x_icmpN_eq (tgt := 37) dX9_readValue_23 (by decide) (by omega) (by omega) (fun c23 => ?_) (fun c23 => ?_)
    · exact absurd c23 (by decide)
    · refine x_aload_n dX9_readValue_26 1 rfl ?_
      refine x_get dX9_readValue_27 fX9_20 (hW.2.1) rfl ?_
      refine x_iconst dX9_readValue_30 ki_0 ?_
      refine x_cVe (N := mX7_fail) (d' := 0) (mc := 0) (ms := 0) (cb := 0) (sb := 0) (As := [.int (nI 0)]) (st := []) dX9_readValue_31 mX7_fail_v lX9_66 rfl rfl (hb) rfl (by decide) (Nat.le_of_ble_eq_true rfl) (hW.fl (by decide)) rfl (sf := fun G1 => []) (fun _ => rfl) (fun G1 hW1 => ?_)
      refine x_goto (tgt := 122) dX9_readValue_34 (by decide) ?_
      exact x_vret dX9_readValue_122 rfl (xEx_i G1 (by unfold valP; rw [hw]; simp only; rw [if_pos (fun q => h0 q.1)]; exact hW1) rfl rfl rfl)
theorem Rr_value {K : xG} {h b tx n : Nat} {G0 G : xHp} {tp : Nat → Nat} {s : xPS} (hW : RRd G0 G b tx n tp s) : xCall K mX9_readValue 5 0 0 [.ref b] h G (rrQ G0 h b tx n tp none (valP tp n s)) := by
  by_cases h0 : s.1 = 0
  · exact Rr_value_o hW h0
  · exact Rr_value_b hW h0
theorem Rr_sum_loop {K : xG} {h b tx n : Nat} {G0 : xHp} {tp : Nat → Nat} {R : xPS} : ∀ (k v : Nat) (iS iT : Option Nat) (s : xPS) (G1 : xHp), v + k = 400 → (∀ j, iS = some j → j < 100) → (∀ j, iT = some j → j < 100) → sumL tp n k iS iT s = R → RRd G0 G1 b tx n tp s → xV K mX9_readSum 6 0 0 h G1 6 [(3, .int (nI v)), (2, .int (chI iT)), (1, .int (chI iS)), (0, .ref b)] [] (rrQ G0 h b tx n tp none R) := by
  intro k
  induction k with
  | zero =>
    intro v iS iT s G1 hv hS hT hR hW1
    refine x_iload_n dX9_readSum_6 0 rfl ?_
    refine x_sipush dX9_readSum_7 ks_400 ?_
    refine x_icmpN_ge (tgt := 108) dX9_readSum_10 (by decide) (by omega) (by omega) (fun c10 => ?_) (fun c10 => ?_)
    · exact x_vret dX9_readSum_108 rfl (xEx_i G1 (by rw [← hR]; exact hW1) rfl rfl rfl)
    · exact absurd c10 (by omega)
  | succ k ih =>
    intro v iS iT s G1 hv hS hT hR hW1
    rcases iT with _ | kt
    · refine x_leq (ls' := [(3, .int (nI v)), (2, .int (-1)), (1, .int (chI iS)), (0, .ref b)]) rfl ?_
      refine x_iload_n dX9_readSum_6 0 rfl ?_
      refine x_sipush dX9_readSum_7 ks_400 ?_
      refine x_icmpN_ge (tgt := 108) dX9_readSum_10 (by decide) (by omega) (by omega) (fun c10 => ?_) (fun c10 => ?_)
      · exact absurd c10 (by omega)
      · refine x_aload_n dX9_readSum_13 3 rfl ?_
        refine x_cVe (N := mX9_readValue) (d' := 5) (mc := 0) (ms := 0) (cb := 0) (sb := 0) (As := []) (st := []) dX9_readSum_14 mX9_readValue_v lX9_94 rfl rfl (hW1.2.1) rfl (by decide) (Nat.le_of_ble_eq_true rfl) (Rr_value hW1) rfl (sf := fun G2 => []) (fun _ => rfl) (fun G2 hW2 => ?_)
        obtain ⟨u22, u32, u42, u52, u62, hc2⟩ := hW2.1.cell
        refine x_iload_n dX9_readSum_17 1 rfl ?_
        refine x_iconst dX9_readSum_18 ki_m1 ?_
        refine x_icmp_eq (x := (-1)) (y := (-1)) (tgt := 28) dX9_readSum_19 (by decide) (fun c19 => ?_) (fun c19 => ?_)
        · refine x_aload_n dX9_readSum_28 3 rfl ?_
          refine x_pc (pc' := 29) rfl ?_
          refine x_cV (N := mX9_stepAtHand) (d' := 0) (mc := 0) (ms := 0) (cb := 0) (sb := 0) (As := []) (st := []) dX9_readSum_29 mX9_stepAtHand_v lX9_90 rfl rfl (hW2.2.1) rfl (by decide) (Nat.le_of_ble_eq_true rfl) (Rr_step hW2) rfl (st1 := [.int (chI (stpP tp n (valP tp n s)))]) rfl ?_
          refine x_istore (ls' := [(4, .int (chI (stpP tp n (valP tp n s)))), (3, .int (nI v)), (2, .int (-1)), (1, .int (chI iS)), (0, .ref b)]) dX9_readSum_32 (by decide) rfl ?_
          rcases hst : stpP tp n (valP tp n s) with _ | c
          · refine x_leq (ls' := [(4, .int (-1)), (3, .int (nI v)), (2, .int (-1)), (1, .int (chI iS)), (0, .ref b)]) rfl ?_
            refine x_iload dX9_readSum_34 0 rfl ?_
            refine x_iconst dX9_readSum_36 ki_4 ?_
            refine x_icmp_lt (x := (-1)) (y := nI 4) (tgt := 52) dX9_readSum_37 (by decide) (fun c37 => ?_) (fun c37 => ?_)
            · refine x_iconst dX9_readSum_52 ki_m1 ?_
              refine x_istore_n (ls' := [(2, .int (-1)), (4, .int (-1)), (3, .int (nI v)), (1, .int (chI iS)), (0, .ref b)]) dX9_readSum_53 (by decide) rfl ?_
              refine x_iload_n dX9_readSum_54 0 rfl ?_
              refine x_iconst dX9_readSum_55 ki_m1 ?_
              refine x_icmp_ne (x := (-1)) (y := (-1)) (tgt := 95) dX9_readSum_56 (by decide) (fun c56 => ?_) (fun c56 => ?_)
              · exact absurd rfl c56
              · rcases iS with _ | ks
                · refine x_leq (ls' := [(2, .int (-1)), (4, .int (-1)), (3, .int (nI v)), (1, .int (-1)), (0, .ref b)]) rfl ?_
                  refine x_pc (pc' := 59) rfl ?_
                  refine x_iload_n dX9_readSum_59 3 rfl ?_
                  refine x_iconst dX9_readSum_60 ki_m1 ?_
                  refine x_icmp_eq (x := (-1)) (y := (-1)) (tgt := 70) dX9_readSum_61 (by decide) (fun c61 => ?_) (fun c61 => ?_)
                  · refine x_iload dX9_readSum_70 1 rfl ?_
                    refine x_iconst dX9_readSum_72 ki_2 ?_
                    refine x_icmp_eq (x := (-1)) (y := nI 2) (tgt := 82) dX9_readSum_73 (by decide) (fun c73 => ?_) (fun c73 => ?_)
                    · exact absurd c73 (by decide)
                    · refine x_iload dX9_readSum_76 1 rfl ?_
                      refine x_iconst dX9_readSum_78 ki_3 ?_
                      refine x_icmp_ne (x := (-1)) (y := nI 3) (tgt := 87) dX9_readSum_79 (by decide) (fun c79 => ?_) (fun c79 => ?_)
                      · refine x_iconst dX9_readSum_87 ki_m1 ?_
                        refine x_pc (pc' := 88) rfl ?_
                        refine x_istore_n (ls' := [(1, .int (-1)), (2, .int (-1)), (4, .int (-1)), (3, .int (nI v)), (0, .ref b)]) dX9_readSum_88 (by decide) rfl ?_
                        refine x_iload_n dX9_readSum_89 0 rfl ?_
                        refine x_iconst dX9_readSum_90 ki_m1 ?_
                        refine x_icmp_ne (x := (-1)) (y := (-1)) (tgt := 95) dX9_readSum_91 (by decide) (fun c91 => ?_) (fun c91 => ?_)
                        · exact absurd rfl c91
                        · exact x_vret dX9_readSum_94 rfl (xEx_i G2 (by rw [← hR, sumL_n (iT := none) hst]; exact hW2) rfl rfl rfl)
                      · exact absurd c79 (by decide)
                  · exact absurd rfl c61
                · refine x_leq (ls' := [(2, .int (-1)), (4, .int (-1)), (3, .int (nI v)), (1, .int (nI ks)), (0, .ref b)]) rfl ?_
                  have hks := hS ks rfl
                  refine x_pc (pc' := 59) rfl ?_
                  refine x_iload_n dX9_readSum_59 3 rfl ?_
                  refine x_iconst dX9_readSum_60 ki_m1 ?_
                  refine x_icmp_eq (x := nI ks) (y := (-1)) (tgt := 70) dX9_readSum_61 (by decide) (fun c61 => ?_) (fun c61 => ?_)
                  · exact absurd c61 (nI_ne1 (by omega))
                  · refine x_aload_n dX9_readSum_64 4 rfl ?_
                    refine x_iload_n dX9_readSum_65 3 rfl ?_
                    refine x_iconst dX9_readSum_66 ki_0 ?_
                    refine x_cVe (N := mX9_putStep) (d' := 0) (mc := 0) (ms := 0) (cb := 0) (sb := 0) (As := [.int (nI ks), .int (nI 0)]) (st := []) dX9_readSum_67 mX9_putStep_v lX9_77 rfl rfl (hW2.2.1) rfl (by decide) (Nat.le_of_ble_eq_true rfl) (Rr_put hW2 (by omega) (by decide)) rfl (sf := fun G3 => []) (fun _ => rfl) (fun G3 hW3 => ?_)
                    obtain ⟨u23, u33, u43, u53, u63, hc3⟩ := hW3.1.cell
                    refine x_iload dX9_readSum_70 1 rfl ?_
                    refine x_iconst dX9_readSum_72 ki_2 ?_
                    refine x_icmp_eq (x := (-1)) (y := nI 2) (tgt := 82) dX9_readSum_73 (by decide) (fun c73 => ?_) (fun c73 => ?_)
                    · exact absurd c73 (by decide)
                    · refine x_pc (pc' := 76) rfl ?_
                      refine x_iload dX9_readSum_76 1 rfl ?_
                      refine x_iconst dX9_readSum_78 ki_3 ?_
                      refine x_icmp_ne (x := (-1)) (y := nI 3) (tgt := 87) dX9_readSum_79 (by decide) (fun c79 => ?_) (fun c79 => ?_)
                      · refine x_iconst dX9_readSum_87 ki_m1 ?_
                        refine x_istore_n (ls' := [(1, .int (-1)), (2, .int (-1)), (4, .int (-1)), (3, .int (nI v)), (0, .ref b)]) dX9_readSum_88 (by decide) rfl ?_
                        refine x_iload_n dX9_readSum_89 0 rfl ?_
                        refine x_iconst dX9_readSum_90 ki_m1 ?_
                        refine x_icmp_ne (x := (-1)) (y := (-1)) (tgt := 95) dX9_readSum_91 (by decide) (fun c91 => ?_) (fun c91 => ?_)
                        · exact absurd rfl c91
                        · exact x_vret dX9_readSum_94 rfl (xEx_i G3 (by rw [← hR, sumL_n (iT := none) hst]; exact hW3) rfl rfl rfl)
                      · exact absurd c79 (by decide)
            · exact absurd c37 (by decide)
          · refine x_leq (ls' := [(4, .int (nI c)), (3, .int (nI v)), (2, .int (-1)), (1, .int (chI iS)), (0, .ref b)]) rfl ?_
            have hcl := stp_lt hst
            obtain ⟨hz0, hz3, hz1, hz2⟩ := hcl
            refine x_iload dX9_readSum_34 0 rfl ?_
            refine x_iconst dX9_readSum_36 ki_4 ?_
            refine x_icmpN_lt (tgt := 52) dX9_readSum_37 (by decide) (by omega) (by omega) (fun c37 => ?_) (fun c37 => ?_)
            · refine x_iconst dX9_readSum_52 ki_m1 ?_
              refine x_istore_n (ls' := [(2, .int (-1)), (4, .int (nI c)), (3, .int (nI v)), (1, .int (chI iS)), (0, .ref b)]) dX9_readSum_53 (by decide) rfl ?_
              refine x_iload_n dX9_readSum_54 0 rfl ?_
              refine x_iconst dX9_readSum_55 ki_m1 ?_
              refine x_icmp_ne (x := (-1)) (y := (-1)) (tgt := 95) dX9_readSum_56 (by decide) (fun c56 => ?_) (fun c56 => ?_)
              · exact absurd rfl c56
              · rcases iS with _ | ks
                · refine x_leq (ls' := [(2, .int (-1)), (4, .int (nI c)), (3, .int (nI v)), (1, .int (-1)), (0, .ref b)]) rfl ?_
                  refine x_pc (pc' := 59) rfl ?_
                  refine x_iload_n dX9_readSum_59 3 rfl ?_
                  refine x_iconst dX9_readSum_60 ki_m1 ?_
                  refine x_icmp_eq (x := (-1)) (y := (-1)) (tgt := 70) dX9_readSum_61 (by decide) (fun c61 => ?_) (fun c61 => ?_)
                  · refine x_iload dX9_readSum_70 1 rfl ?_
                    refine x_iconst dX9_readSum_72 ki_2 ?_
                    refine x_icmpN_eq (tgt := 82) dX9_readSum_73 (by decide) (by omega) (by omega) (fun c73 => ?_) (fun c73 => ?_)
                    · refine x_iload dX9_readSum_82 1 rfl ?_
                      refine x_goto (tgt := 88) dX9_readSum_84 (by decide) ?_
                      refine x_istore_n (ls' := [(1, .int (nI c)), (2, .int (-1)), (4, .int (nI c)), (3, .int (nI v)), (0, .ref b)]) dX9_readSum_88 (by decide) rfl ?_
                      refine x_iload_n dX9_readSum_89 0 rfl ?_
                      refine x_pc (pc' := 90) rfl ?_
                      refine x_iconst dX9_readSum_90 ki_m1 ?_
                      refine x_icmp_ne (x := nI c) (y := (-1)) (tgt := 95) dX9_readSum_91 (by decide) (fun c91 => ?_) (fun c91 => ?_)
                      · refine x_aload_n dX9_readSum_95 4 rfl ?_
                        refine x_get dX9_readSum_96 fX9_20 (hW2.2.1) rfl ?_
                        refine x_cVe (N := mX7_next) (d' := 0) (mc := 0) (ms := 0) (cb := 0) (sb := 0) (As := []) (st := []) dX9_readSum_99 mX7_next_v lX9_42 rfl rfl (hc2) rfl (by decide) (Nat.le_of_ble_eq_true rfl) (hW2.nx (hz0)) rfl (sf := fun G4 => []) (fun _ => rfl) (fun G4 hW4 => ?_)
                        obtain ⟨u24, u34, u44, u54, u64, hc4⟩ := hW4.1.cell
                        refine x_iinc (v := nI (v + 1)) (ls' := [(3, .int (nI (v + 1))), (1, .int (nI c)), (2, .int (-1)), (4, .int (nI c)), (0, .ref b)]) dX9_readSum_102 3 rfl (nIs _) (by decide) rfl ?_
                        refine x_goto (tgt := 6) dX9_readSum_105 (by decide) ?_
                        refine x_perm (ls' := [(3, .int (nI (v + 1))), (2, .int (-1)), (1, .int (nI c)), (0, .ref b)]) [0, 2, 1, 4] rfl ?_
                        refine x_leq (ls' := [(3, .int (nI (v + 1))), (2, .int (chI none)), (1, .int (chI (some c))), (0, .ref b)]) rfl ?_
                        exact ih (v + 1) (some c) none _ G4 (by omega) (fun j q => by simp at q; omega) (fun j q => by simp at q) (by rw [← hR, sumL_p (iT := none) hst (by omega)]; rfl) hW4
                      · exact absurd c91 (nI_ne1 (by omega))
                    · refine x_iload dX9_readSum_76 1 rfl ?_
                      refine x_iconst dX9_readSum_78 ki_3 ?_
                      refine x_icmpN_ne (tgt := 87) dX9_readSum_79 (by decide) (by omega) (by omega) (fun c79 => ?_) (fun c79 => ?_)
                      · refine x_iconst dX9_readSum_87 ki_m1 ?_
                        refine x_pc (pc' := 88) rfl ?_
                        refine x_istore_n (ls' := [(1, .int (-1)), (2, .int (-1)), (4, .int (nI c)), (3, .int (nI v)), (0, .ref b)]) dX9_readSum_88 (by decide) rfl ?_
                        refine x_iload_n dX9_readSum_89 0 rfl ?_
                        refine x_iconst dX9_readSum_90 ki_m1 ?_
                        refine x_icmp_ne (x := (-1)) (y := (-1)) (tgt := 95) dX9_readSum_91 (by decide) (fun c91 => ?_) (fun c91 => ?_)
                        · exact absurd rfl c91
                        · exact x_vret dX9_readSum_94 rfl (xEx_i G2 (by rw [← hR, sumL_e (iT := none) hst (by omega) (by omega)]; exact hW2) rfl rfl rfl)
                      · refine x_iload dX9_readSum_82 1 rfl ?_
                        refine x_pc (pc' := 84) rfl ?_
                        refine x_goto (tgt := 88) dX9_readSum_84 (by decide) ?_
                        refine x_istore_n (ls' := [(1, .int (nI c)), (2, .int (-1)), (4, .int (nI c)), (3, .int (nI v)), (0, .ref b)]) dX9_readSum_88 (by decide) rfl ?_
                        refine x_iload_n dX9_readSum_89 0 rfl ?_
                        refine x_iconst dX9_readSum_90 ki_m1 ?_
                        refine x_icmp_ne (x := nI c) (y := (-1)) (tgt := 95) dX9_readSum_91 (by decide) (fun c91 => ?_) (fun c91 => ?_)
                        · refine x_aload_n dX9_readSum_95 4 rfl ?_
                          refine x_get dX9_readSum_96 fX9_20 (hW2.2.1) rfl ?_
                          refine x_cVe (N := mX7_next) (d' := 0) (mc := 0) (ms := 0) (cb := 0) (sb := 0) (As := []) (st := []) dX9_readSum_99 mX7_next_v lX9_42 rfl rfl (hc2) rfl (by decide) (Nat.le_of_ble_eq_true rfl) (hW2.nx (hz0)) rfl (sf := fun G5 => []) (fun _ => rfl) (fun G5 hW5 => ?_)
                          obtain ⟨u25, u35, u45, u55, u65, hc5⟩ := hW5.1.cell
                          refine x_iinc (v := nI (v + 1)) (ls' := [(3, .int (nI (v + 1))), (1, .int (nI c)), (2, .int (-1)), (4, .int (nI c)), (0, .ref b)]) dX9_readSum_102 3 rfl (nIs _) (by decide) rfl ?_
                          refine x_goto (tgt := 6) dX9_readSum_105 (by decide) ?_
                          refine x_perm (ls' := [(3, .int (nI (v + 1))), (2, .int (-1)), (1, .int (nI c)), (0, .ref b)]) [0, 2, 1, 4] rfl ?_
                          refine x_leq (ls' := [(3, .int (nI (v + 1))), (2, .int (chI none)), (1, .int (chI (some c))), (0, .ref b)]) rfl ?_
                          exact ih (v + 1) (some c) none _ G5 (by omega) (fun j q => by simp at q; omega) (fun j q => by simp at q) (by rw [← hR, sumL_p (iT := none) hst (by omega)]; rfl) hW5
                        · exact absurd c91 (nI_ne1 (by omega))
                  · exact absurd rfl c61
                · refine x_leq (ls' := [(2, .int (-1)), (4, .int (nI c)), (3, .int (nI v)), (1, .int (nI ks)), (0, .ref b)]) rfl ?_
                  have hks := hS ks rfl
                  refine x_pc (pc' := 59) rfl ?_
                  refine x_iload_n dX9_readSum_59 3 rfl ?_
                  refine x_iconst dX9_readSum_60 ki_m1 ?_
                  refine x_icmp_eq (x := nI ks) (y := (-1)) (tgt := 70) dX9_readSum_61 (by decide) (fun c61 => ?_) (fun c61 => ?_)
                  · exact absurd c61 (nI_ne1 (by omega))
                  · refine x_aload_n dX9_readSum_64 4 rfl ?_
                    refine x_iload_n dX9_readSum_65 3 rfl ?_
                    refine x_iconst dX9_readSum_66 ki_0 ?_
                    refine x_cVe (N := mX9_putStep) (d' := 0) (mc := 0) (ms := 0) (cb := 0) (sb := 0) (As := [.int (nI ks), .int (nI 0)]) (st := []) dX9_readSum_67 mX9_putStep_v lX9_77 rfl rfl (hW2.2.1) rfl (by decide) (Nat.le_of_ble_eq_true rfl) (Rr_put hW2 (by omega) (by decide)) rfl (sf := fun G6 => []) (fun _ => rfl) (fun G6 hW6 => ?_)
                    obtain ⟨u26, u36, u46, u56, u66, hc6⟩ := hW6.1.cell
                    refine x_iload dX9_readSum_70 1 rfl ?_
                    refine x_iconst dX9_readSum_72 ki_2 ?_
                    refine x_icmpN_eq (tgt := 82) dX9_readSum_73 (by decide) (by omega) (by omega) (fun c73 => ?_) (fun c73 => ?_)
                    · refine x_pc (pc' := 82) rfl ?_
                      refine x_iload dX9_readSum_82 1 rfl ?_
                      refine x_goto (tgt := 88) dX9_readSum_84 (by decide) ?_
                      refine x_istore_n (ls' := [(1, .int (nI c)), (2, .int (-1)), (4, .int (nI c)), (3, .int (nI v)), (0, .ref b)]) dX9_readSum_88 (by decide) rfl ?_
                      refine x_iload_n dX9_readSum_89 0 rfl ?_
                      refine x_iconst dX9_readSum_90 ki_m1 ?_
                      refine x_icmp_ne (x := nI c) (y := (-1)) (tgt := 95) dX9_readSum_91 (by decide) (fun c91 => ?_) (fun c91 => ?_)
                      · refine x_aload_n dX9_readSum_95 4 rfl ?_
                        refine x_get dX9_readSum_96 fX9_20 (hW6.2.1) rfl ?_
                        refine x_cVe (N := mX7_next) (d' := 0) (mc := 0) (ms := 0) (cb := 0) (sb := 0) (As := []) (st := []) dX9_readSum_99 mX7_next_v lX9_42 rfl rfl (hc6) rfl (by decide) (Nat.le_of_ble_eq_true rfl) (hW6.nx (putP_f.1.trans hz0)) rfl (sf := fun G7 => []) (fun _ => rfl) (fun G7 hW7 => ?_)
                        obtain ⟨u27, u37, u47, u57, u67, hc7⟩ := hW7.1.cell
                        refine x_iinc (v := nI (v + 1)) (ls' := [(3, .int (nI (v + 1))), (1, .int (nI c)), (2, .int (-1)), (4, .int (nI c)), (0, .ref b)]) dX9_readSum_102 3 rfl (nIs _) (by decide) rfl ?_
                        refine x_pc (pc' := 105) rfl ?_
                        refine x_goto (tgt := 6) dX9_readSum_105 (by decide) ?_
                        refine x_perm (ls' := [(3, .int (nI (v + 1))), (2, .int (-1)), (1, .int (nI c)), (0, .ref b)]) [0, 2, 1, 4] rfl ?_
                        refine x_leq (ls' := [(3, .int (nI (v + 1))), (2, .int (chI none)), (1, .int (chI (some c))), (0, .ref b)]) rfl ?_
                        exact ih (v + 1) (some c) none _ G7 (by omega) (fun j q => by simp at q; omega) (fun j q => by simp at q) (by rw [← hR, sumL_p (iT := none) hst (by omega)]; rfl) hW7
                      · exact absurd c91 (nI_ne1 (by omega))
                    · refine x_pc (pc' := 76) rfl ?_
                      refine x_iload dX9_readSum_76 1 rfl ?_
                      refine x_iconst dX9_readSum_78 ki_3 ?_
                      refine x_icmpN_ne (tgt := 87) dX9_readSum_79 (by decide) (by omega) (by omega) (fun c79 => ?_) (fun c79 => ?_)
                      · refine x_iconst dX9_readSum_87 ki_m1 ?_
                        refine x_istore_n (ls' := [(1, .int (-1)), (2, .int (-1)), (4, .int (nI c)), (3, .int (nI v)), (0, .ref b)]) dX9_readSum_88 (by decide) rfl ?_
                        refine x_iload_n dX9_readSum_89 0 rfl ?_
                        refine x_iconst dX9_readSum_90 ki_m1 ?_
                        refine x_icmp_ne (x := (-1)) (y := (-1)) (tgt := 95) dX9_readSum_91 (by decide) (fun c91 => ?_) (fun c91 => ?_)
                        · exact absurd rfl c91
                        · exact x_vret dX9_readSum_94 rfl (xEx_i G6 (by rw [← hR, sumL_e (iT := none) hst (by omega) (by omega)]; exact hW6) rfl rfl rfl)
                      · refine x_iload dX9_readSum_82 1 rfl ?_
                        refine x_goto (tgt := 88) dX9_readSum_84 (by decide) ?_
                        refine x_istore_n (ls' := [(1, .int (nI c)), (2, .int (-1)), (4, .int (nI c)), (3, .int (nI v)), (0, .ref b)]) dX9_readSum_88 (by decide) rfl ?_
                        refine x_iload_n dX9_readSum_89 0 rfl ?_
                        refine x_iconst dX9_readSum_90 ki_m1 ?_
                        refine x_icmp_ne (x := nI c) (y := (-1)) (tgt := 95) dX9_readSum_91 (by decide) (fun c91 => ?_) (fun c91 => ?_)
                        · refine x_aload_n dX9_readSum_95 4 rfl ?_
                          refine x_pc (pc' := 96) rfl ?_
                          refine x_get dX9_readSum_96 fX9_20 (hW6.2.1) rfl ?_
                          refine x_cVe (N := mX7_next) (d' := 0) (mc := 0) (ms := 0) (cb := 0) (sb := 0) (As := []) (st := []) dX9_readSum_99 mX7_next_v lX9_42 rfl rfl (hc6) rfl (by decide) (Nat.le_of_ble_eq_true rfl) (hW6.nx (putP_f.1.trans hz0)) rfl (sf := fun G8 => []) (fun _ => rfl) (fun G8 hW8 => ?_)
                          obtain ⟨u28, u38, u48, u58, u68, hc8⟩ := hW8.1.cell
                          refine x_iinc (v := nI (v + 1)) (ls' := [(3, .int (nI (v + 1))), (1, .int (nI c)), (2, .int (-1)), (4, .int (nI c)), (0, .ref b)]) dX9_readSum_102 3 rfl (nIs _) (by decide) rfl ?_
                          refine x_goto (tgt := 6) dX9_readSum_105 (by decide) ?_
                          refine x_perm (ls' := [(3, .int (nI (v + 1))), (2, .int (-1)), (1, .int (nI c)), (0, .ref b)]) [0, 2, 1, 4] rfl ?_
                          refine x_leq (ls' := [(3, .int (nI (v + 1))), (2, .int (chI none)), (1, .int (chI (some c))), (0, .ref b)]) rfl ?_
                          exact ih (v + 1) (some c) none _ G8 (by omega) (fun j q => by simp at q; omega) (fun j q => by simp at q) (by rw [← hR, sumL_p (iT := none) hst (by omega)]; rfl) hW8
                        · exact absurd c91 (nI_ne1 (by omega))
            · refine x_iload dX9_readSum_40 0 rfl ?_
              refine x_bipush dX9_readSum_42 kb_6 ?_
              refine x_icmpN_gt (tgt := 52) dX9_readSum_44 (by decide) (by omega) (by omega) (fun c44 => ?_) (fun c44 => ?_)
              · refine x_iconst dX9_readSum_52 ki_m1 ?_
                refine x_istore_n (ls' := [(2, .int (-1)), (4, .int (nI c)), (3, .int (nI v)), (1, .int (chI iS)), (0, .ref b)]) dX9_readSum_53 (by decide) rfl ?_
                refine x_pc (pc' := 54) rfl ?_
                refine x_iload_n dX9_readSum_54 0 rfl ?_
                refine x_iconst dX9_readSum_55 ki_m1 ?_
                refine x_icmp_ne (x := (-1)) (y := (-1)) (tgt := 95) dX9_readSum_56 (by decide) (fun c56 => ?_) (fun c56 => ?_)
                · exact absurd rfl c56
                · rcases iS with _ | ks
                  · refine x_leq (ls' := [(2, .int (-1)), (4, .int (nI c)), (3, .int (nI v)), (1, .int (-1)), (0, .ref b)]) rfl ?_
                    refine x_iload_n dX9_readSum_59 3 rfl ?_
                    refine x_iconst dX9_readSum_60 ki_m1 ?_
                    refine x_icmp_eq (x := (-1)) (y := (-1)) (tgt := 70) dX9_readSum_61 (by decide) (fun c61 => ?_) (fun c61 => ?_)
                    · refine x_iload dX9_readSum_70 1 rfl ?_
                      refine x_iconst dX9_readSum_72 ki_2 ?_
                      refine x_icmpN_eq (tgt := 82) dX9_readSum_73 (by decide) (by omega) (by omega) (fun c73 => ?_) (fun c73 => ?_)
                      · refine x_iload dX9_readSum_82 1 rfl ?_
                        refine x_pc (pc' := 84) rfl ?_
                        refine x_goto (tgt := 88) dX9_readSum_84 (by decide) ?_
                        refine x_istore_n (ls' := [(1, .int (nI c)), (2, .int (-1)), (4, .int (nI c)), (3, .int (nI v)), (0, .ref b)]) dX9_readSum_88 (by decide) rfl ?_
                        refine x_iload_n dX9_readSum_89 0 rfl ?_
                        refine x_iconst dX9_readSum_90 ki_m1 ?_
                        refine x_icmp_ne (x := nI c) (y := (-1)) (tgt := 95) dX9_readSum_91 (by decide) (fun c91 => ?_) (fun c91 => ?_)
                        · refine x_aload_n dX9_readSum_95 4 rfl ?_
                          refine x_get dX9_readSum_96 fX9_20 (hW2.2.1) rfl ?_
                          refine x_cVe (N := mX7_next) (d' := 0) (mc := 0) (ms := 0) (cb := 0) (sb := 0) (As := []) (st := []) dX9_readSum_99 mX7_next_v lX9_42 rfl rfl (hc2) rfl (by decide) (Nat.le_of_ble_eq_true rfl) (hW2.nx (hz0)) rfl (sf := fun G9 => []) (fun _ => rfl) (fun G9 hW9 => ?_)
                          obtain ⟨u29, u39, u49, u59, u69, hc9⟩ := hW9.1.cell
                          refine x_iinc (v := nI (v + 1)) (ls' := [(3, .int (nI (v + 1))), (1, .int (nI c)), (2, .int (-1)), (4, .int (nI c)), (0, .ref b)]) dX9_readSum_102 3 rfl (nIs _) (by decide) rfl ?_
                          refine x_goto (tgt := 6) dX9_readSum_105 (by decide) ?_
                          refine x_perm (ls' := [(3, .int (nI (v + 1))), (2, .int (-1)), (1, .int (nI c)), (0, .ref b)]) [0, 2, 1, 4] rfl ?_
                          refine x_leq (ls' := [(3, .int (nI (v + 1))), (2, .int (chI none)), (1, .int (chI (some c))), (0, .ref b)]) rfl ?_
                          exact ih (v + 1) (some c) none _ G9 (by omega) (fun j q => by simp at q; omega) (fun j q => by simp at q) (by rw [← hR, sumL_p (iT := none) hst (by omega)]; rfl) hW9
                        · exact absurd c91 (nI_ne1 (by omega))
                      · refine x_iload dX9_readSum_76 1 rfl ?_
                        refine x_pc (pc' := 78) rfl ?_
                        refine x_iconst dX9_readSum_78 ki_3 ?_
                        refine x_icmpN_ne (tgt := 87) dX9_readSum_79 (by decide) (by omega) (by omega) (fun c79 => ?_) (fun c79 => ?_)
                        · refine x_iconst dX9_readSum_87 ki_m1 ?_
                          refine x_istore_n (ls' := [(1, .int (-1)), (2, .int (-1)), (4, .int (nI c)), (3, .int (nI v)), (0, .ref b)]) dX9_readSum_88 (by decide) rfl ?_
                          refine x_iload_n dX9_readSum_89 0 rfl ?_
                          refine x_iconst dX9_readSum_90 ki_m1 ?_
                          refine x_icmp_ne (x := (-1)) (y := (-1)) (tgt := 95) dX9_readSum_91 (by decide) (fun c91 => ?_) (fun c91 => ?_)
                          · exact absurd rfl c91
                          · exact x_vret dX9_readSum_94 rfl (xEx_i G2 (by rw [← hR, sumL_e (iT := none) hst (by omega) (by omega)]; exact hW2) rfl rfl rfl)
                        · refine x_iload dX9_readSum_82 1 rfl ?_
                          refine x_goto (tgt := 88) dX9_readSum_84 (by decide) ?_
                          refine x_istore_n (ls' := [(1, .int (nI c)), (2, .int (-1)), (4, .int (nI c)), (3, .int (nI v)), (0, .ref b)]) dX9_readSum_88 (by decide) rfl ?_
                          refine x_iload_n dX9_readSum_89 0 rfl ?_
                          refine x_iconst dX9_readSum_90 ki_m1 ?_
                          refine x_icmp_ne (x := nI c) (y := (-1)) (tgt := 95) dX9_readSum_91 (by decide) (fun c91 => ?_) (fun c91 => ?_)
                          · refine x_aload_n dX9_readSum_95 4 rfl ?_
                            refine x_get dX9_readSum_96 fX9_20 (hW2.2.1) rfl ?_
                            refine x_pc (pc' := 99) rfl ?_
                            refine x_cVe (N := mX7_next) (d' := 0) (mc := 0) (ms := 0) (cb := 0) (sb := 0) (As := []) (st := []) dX9_readSum_99 mX7_next_v lX9_42 rfl rfl (hc2) rfl (by decide) (Nat.le_of_ble_eq_true rfl) (hW2.nx (hz0)) rfl (sf := fun G10 => []) (fun _ => rfl) (fun G10 hW10 => ?_)
                            obtain ⟨u210, u310, u410, u510, u610, hc10⟩ := hW10.1.cell
                            refine x_iinc (v := nI (v + 1)) (ls' := [(3, .int (nI (v + 1))), (1, .int (nI c)), (2, .int (-1)), (4, .int (nI c)), (0, .ref b)]) dX9_readSum_102 3 rfl (nIs _) (by decide) rfl ?_
                            refine x_goto (tgt := 6) dX9_readSum_105 (by decide) ?_
                            refine x_perm (ls' := [(3, .int (nI (v + 1))), (2, .int (-1)), (1, .int (nI c)), (0, .ref b)]) [0, 2, 1, 4] rfl ?_
                            refine x_leq (ls' := [(3, .int (nI (v + 1))), (2, .int (chI none)), (1, .int (chI (some c))), (0, .ref b)]) rfl ?_
                            exact ih (v + 1) (some c) none _ G10 (by omega) (fun j q => by simp at q; omega) (fun j q => by simp at q) (by rw [← hR, sumL_p (iT := none) hst (by omega)]; rfl) hW10
                          · exact absurd c91 (nI_ne1 (by omega))
                    · exact absurd rfl c61
                  · refine x_leq (ls' := [(2, .int (-1)), (4, .int (nI c)), (3, .int (nI v)), (1, .int (nI ks)), (0, .ref b)]) rfl ?_
                    have hks := hS ks rfl
                    refine x_iload_n dX9_readSum_59 3 rfl ?_
                    refine x_iconst dX9_readSum_60 ki_m1 ?_
                    refine x_icmp_eq (x := nI ks) (y := (-1)) (tgt := 70) dX9_readSum_61 (by decide) (fun c61 => ?_) (fun c61 => ?_)
                    · exact absurd c61 (nI_ne1 (by omega))
                    · refine x_aload_n dX9_readSum_64 4 rfl ?_
                      refine x_iload_n dX9_readSum_65 3 rfl ?_
                      refine x_iconst dX9_readSum_66 ki_0 ?_
                      refine x_cVe (N := mX9_putStep) (d' := 0) (mc := 0) (ms := 0) (cb := 0) (sb := 0) (As := [.int (nI ks), .int (nI 0)]) (st := []) dX9_readSum_67 mX9_putStep_v lX9_77 rfl rfl (hW2.2.1) rfl (by decide) (Nat.le_of_ble_eq_true rfl) (Rr_put hW2 (by omega) (by decide)) rfl (sf := fun G11 => []) (fun _ => rfl) (fun G11 hW11 => ?_)
                      obtain ⟨u211, u311, u411, u511, u611, hc11⟩ := hW11.1.cell
                      refine x_pc (pc' := 70) rfl ?_
                      refine x_iload dX9_readSum_70 1 rfl ?_
                      refine x_iconst dX9_readSum_72 ki_2 ?_
                      refine x_icmpN_eq (tgt := 82) dX9_readSum_73 (by decide) (by omega) (by omega) (fun c73 => ?_) (fun c73 => ?_)
                      · refine x_iload dX9_readSum_82 1 rfl ?_
                        refine x_goto (tgt := 88) dX9_readSum_84 (by decide) ?_
                        refine x_istore_n (ls' := [(1, .int (nI c)), (2, .int (-1)), (4, .int (nI c)), (3, .int (nI v)), (0, .ref b)]) dX9_readSum_88 (by decide) rfl ?_
                        refine x_iload_n dX9_readSum_89 0 rfl ?_
                        refine x_iconst dX9_readSum_90 ki_m1 ?_
                        refine x_icmp_ne (x := nI c) (y := (-1)) (tgt := 95) dX9_readSum_91 (by decide) (fun c91 => ?_) (fun c91 => ?_)
                        · refine x_aload_n dX9_readSum_95 4 rfl ?_
                          refine x_pc (pc' := 96) rfl ?_
                          refine x_get dX9_readSum_96 fX9_20 (hW11.2.1) rfl ?_
                          refine x_cVe (N := mX7_next) (d' := 0) (mc := 0) (ms := 0) (cb := 0) (sb := 0) (As := []) (st := []) dX9_readSum_99 mX7_next_v lX9_42 rfl rfl (hc11) rfl (by decide) (Nat.le_of_ble_eq_true rfl) (hW11.nx (putP_f.1.trans hz0)) rfl (sf := fun G12 => []) (fun _ => rfl) (fun G12 hW12 => ?_)
                          obtain ⟨u212, u312, u412, u512, u612, hc12⟩ := hW12.1.cell
                          refine x_iinc (v := nI (v + 1)) (ls' := [(3, .int (nI (v + 1))), (1, .int (nI c)), (2, .int (-1)), (4, .int (nI c)), (0, .ref b)]) dX9_readSum_102 3 rfl (nIs _) (by decide) rfl ?_
                          refine x_goto (tgt := 6) dX9_readSum_105 (by decide) ?_
                          refine x_perm (ls' := [(3, .int (nI (v + 1))), (2, .int (-1)), (1, .int (nI c)), (0, .ref b)]) [0, 2, 1, 4] rfl ?_
                          refine x_leq (ls' := [(3, .int (nI (v + 1))), (2, .int (chI none)), (1, .int (chI (some c))), (0, .ref b)]) rfl ?_
                          exact ih (v + 1) (some c) none _ G12 (by omega) (fun j q => by simp at q; omega) (fun j q => by simp at q) (by rw [← hR, sumL_p (iT := none) hst (by omega)]; rfl) hW12
                        · exact absurd c91 (nI_ne1 (by omega))
                      · refine x_iload dX9_readSum_76 1 rfl ?_
                        refine x_iconst dX9_readSum_78 ki_3 ?_
                        refine x_icmpN_ne (tgt := 87) dX9_readSum_79 (by decide) (by omega) (by omega) (fun c79 => ?_) (fun c79 => ?_)
                        · refine x_iconst dX9_readSum_87 ki_m1 ?_
                          refine x_istore_n (ls' := [(1, .int (-1)), (2, .int (-1)), (4, .int (nI c)), (3, .int (nI v)), (0, .ref b)]) dX9_readSum_88 (by decide) rfl ?_
                          refine x_iload_n dX9_readSum_89 0 rfl ?_
                          refine x_iconst dX9_readSum_90 ki_m1 ?_
                          refine x_pc (pc' := 91) rfl ?_
                          refine x_icmp_ne (x := (-1)) (y := (-1)) (tgt := 95) dX9_readSum_91 (by decide) (fun c91 => ?_) (fun c91 => ?_)
                          · exact absurd rfl c91
                          · exact x_vret dX9_readSum_94 rfl (xEx_i G11 (by rw [← hR, sumL_e (iT := none) hst (by omega) (by omega)]; exact hW11) rfl rfl rfl)
                        · refine x_iload dX9_readSum_82 1 rfl ?_
                          refine x_goto (tgt := 88) dX9_readSum_84 (by decide) ?_
                          refine x_istore_n (ls' := [(1, .int (nI c)), (2, .int (-1)), (4, .int (nI c)), (3, .int (nI v)), (0, .ref b)]) dX9_readSum_88 (by decide) rfl ?_
                          refine x_iload_n dX9_readSum_89 0 rfl ?_
                          refine x_pc (pc' := 90) rfl ?_
                          refine x_iconst dX9_readSum_90 ki_m1 ?_
                          refine x_icmp_ne (x := nI c) (y := (-1)) (tgt := 95) dX9_readSum_91 (by decide) (fun c91 => ?_) (fun c91 => ?_)
                          · refine x_aload_n dX9_readSum_95 4 rfl ?_
                            refine x_get dX9_readSum_96 fX9_20 (hW11.2.1) rfl ?_
                            refine x_cVe (N := mX7_next) (d' := 0) (mc := 0) (ms := 0) (cb := 0) (sb := 0) (As := []) (st := []) dX9_readSum_99 mX7_next_v lX9_42 rfl rfl (hc11) rfl (by decide) (Nat.le_of_ble_eq_true rfl) (hW11.nx (putP_f.1.trans hz0)) rfl (sf := fun G13 => []) (fun _ => rfl) (fun G13 hW13 => ?_)
                            obtain ⟨u213, u313, u413, u513, u613, hc13⟩ := hW13.1.cell
                            refine x_iinc (v := nI (v + 1)) (ls' := [(3, .int (nI (v + 1))), (1, .int (nI c)), (2, .int (-1)), (4, .int (nI c)), (0, .ref b)]) dX9_readSum_102 3 rfl (nIs _) (by decide) rfl ?_
                            refine x_goto (tgt := 6) dX9_readSum_105 (by decide) ?_
                            refine x_perm (ls' := [(3, .int (nI (v + 1))), (2, .int (-1)), (1, .int (nI c)), (0, .ref b)]) [0, 2, 1, 4] rfl ?_
                            refine x_leq (ls' := [(3, .int (nI (v + 1))), (2, .int (chI none)), (1, .int (chI (some c))), (0, .ref b)]) rfl ?_
                            exact ih (v + 1) (some c) none _ G13 (by omega) (fun j q => by simp at q; omega) (fun j q => by simp at q) (by rw [← hR, sumL_p (iT := none) hst (by omega)]; rfl) hW13
                          · exact absurd c91 (nI_ne1 (by omega))
              · refine x_iload dX9_readSum_47 0 rfl ?_
                refine x_goto (tgt := 53) dX9_readSum_49 (by decide) ?_
                refine x_pc (pc' := 53) rfl ?_
                refine x_istore_n (ls' := [(2, .int (nI c)), (4, .int (nI c)), (3, .int (nI v)), (1, .int (chI iS)), (0, .ref b)]) dX9_readSum_53 (by decide) rfl ?_
                refine x_iload_n dX9_readSum_54 0 rfl ?_
                refine x_iconst dX9_readSum_55 ki_m1 ?_
                refine x_icmp_ne (x := nI c) (y := (-1)) (tgt := 95) dX9_readSum_56 (by decide) (fun c56 => ?_) (fun c56 => ?_)
                · refine x_aload_n dX9_readSum_95 4 rfl ?_
                  refine x_get dX9_readSum_96 fX9_20 (hW2.2.1) rfl ?_
                  refine x_cVe (N := mX7_next) (d' := 0) (mc := 0) (ms := 0) (cb := 0) (sb := 0) (As := []) (st := []) dX9_readSum_99 mX7_next_v lX9_42 rfl rfl (hc2) rfl (by decide) (Nat.le_of_ble_eq_true rfl) (hW2.nx (hz0)) rfl (sf := fun G14 => []) (fun _ => rfl) (fun G14 hW14 => ?_)
                  obtain ⟨u214, u314, u414, u514, u614, hc14⟩ := hW14.1.cell
                  refine x_iinc (v := nI (v + 1)) (ls' := [(3, .int (nI (v + 1))), (2, .int (nI c)), (4, .int (nI c)), (1, .int (chI iS)), (0, .ref b)]) dX9_readSum_102 2 rfl (nIs _) (by decide) rfl ?_
                  refine x_goto (tgt := 6) dX9_readSum_105 (by decide) ?_
                  refine x_perm (ls' := [(3, .int (nI (v + 1))), (2, .int (nI c)), (1, .int (chI iS)), (0, .ref b)]) [0, 1, 3, 4] rfl ?_
                  refine x_leq (ls' := [(3, .int (nI (v + 1))), (2, .int (chI (some c))), (1, .int (chI iS)), (0, .ref b)]) rfl ?_
                  exact ih (v + 1) iS (some c) _ G14 (by omega) hS (fun j q => by simp at q; omega) (by rw [← hR, sumL_m (iT := none) hst (by omega) (by omega)]; rfl) hW14
                · exact absurd c56 (nI_ne1 (by omega))
        · exact absurd rfl c19
    · refine x_leq (ls' := [(3, .int (nI v)), (2, .int (nI kt)), (1, .int (chI iS)), (0, .ref b)]) rfl ?_
      have hkt := hT kt rfl
      refine x_iload_n dX9_readSum_6 0 rfl ?_
      refine x_sipush dX9_readSum_7 ks_400 ?_
      refine x_icmpN_ge (tgt := 108) dX9_readSum_10 (by decide) (by omega) (by omega) (fun c10 => ?_) (fun c10 => ?_)
      · exact absurd c10 (by omega)
      · refine x_aload_n dX9_readSum_13 3 rfl ?_
        refine x_cVe (N := mX9_readValue) (d' := 5) (mc := 0) (ms := 0) (cb := 0) (sb := 0) (As := []) (st := []) dX9_readSum_14 mX9_readValue_v lX9_94 rfl rfl (hW1.2.1) rfl (by decide) (Nat.le_of_ble_eq_true rfl) (Rr_value hW1) rfl (sf := fun G2 => []) (fun _ => rfl) (fun G2 hW2 => ?_)
        obtain ⟨u22, u32, u42, u52, u62, hc2⟩ := hW2.1.cell
        refine x_iload_n dX9_readSum_17 1 rfl ?_
        refine x_iconst dX9_readSum_18 ki_m1 ?_
        refine x_icmp_eq (x := nI kt) (y := (-1)) (tgt := 28) dX9_readSum_19 (by decide) (fun c19 => ?_) (fun c19 => ?_)
        · exact absurd c19 (nI_ne1 (by omega))
        · refine x_aload_n dX9_readSum_22 3 rfl ?_
          refine x_pc (pc' := 23) rfl ?_
          refine x_iload_n dX9_readSum_23 1 rfl ?_
          refine x_iconst dX9_readSum_24 ki_0 ?_
          refine x_cVe (N := mX9_putStep) (d' := 0) (mc := 0) (ms := 0) (cb := 0) (sb := 0) (As := [.int (nI kt), .int (nI 0)]) (st := []) dX9_readSum_25 mX9_putStep_v lX9_77 rfl rfl (hW2.2.1) rfl (by decide) (Nat.le_of_ble_eq_true rfl) (Rr_put hW2 (by omega) (by decide)) rfl (sf := fun G3 => []) (fun _ => rfl) (fun G3 hW3 => ?_)
          obtain ⟨u23, u33, u43, u53, u63, hc3⟩ := hW3.1.cell
          refine x_aload_n dX9_readSum_28 3 rfl ?_
          refine x_cV (N := mX9_stepAtHand) (d' := 0) (mc := 0) (ms := 0) (cb := 0) (sb := 0) (As := []) (st := []) dX9_readSum_29 mX9_stepAtHand_v lX9_90 rfl rfl (hW3.2.1) rfl (by decide) (Nat.le_of_ble_eq_true rfl) (Rr_step hW3) rfl (st1 := [.int (chI (stpP tp n (putP (valP tp n s) kt 0)))]) rfl ?_
          refine x_istore (ls' := [(4, .int (chI (stpP tp n (putP (valP tp n s) kt 0)))), (3, .int (nI v)), (2, .int (nI kt)), (1, .int (chI iS)), (0, .ref b)]) dX9_readSum_32 (by decide) rfl ?_
          rcases hst : stpP tp n (putP (valP tp n s) kt 0) with _ | c
          · refine x_leq (ls' := [(4, .int (-1)), (3, .int (nI v)), (2, .int (nI kt)), (1, .int (chI iS)), (0, .ref b)]) rfl ?_
            refine x_iload dX9_readSum_34 0 rfl ?_
            refine x_iconst dX9_readSum_36 ki_4 ?_
            refine x_icmp_lt (x := (-1)) (y := nI 4) (tgt := 52) dX9_readSum_37 (by decide) (fun c37 => ?_) (fun c37 => ?_)
            · refine x_iconst dX9_readSum_52 ki_m1 ?_
              refine x_pc (pc' := 53) rfl ?_
              refine x_istore_n (ls' := [(2, .int (-1)), (4, .int (-1)), (3, .int (nI v)), (1, .int (chI iS)), (0, .ref b)]) dX9_readSum_53 (by decide) rfl ?_
              refine x_iload_n dX9_readSum_54 0 rfl ?_
              refine x_iconst dX9_readSum_55 ki_m1 ?_
              refine x_icmp_ne (x := (-1)) (y := (-1)) (tgt := 95) dX9_readSum_56 (by decide) (fun c56 => ?_) (fun c56 => ?_)
              · exact absurd rfl c56
              · rcases iS with _ | ks
                · refine x_leq (ls' := [(2, .int (-1)), (4, .int (-1)), (3, .int (nI v)), (1, .int (-1)), (0, .ref b)]) rfl ?_
                  refine x_iload_n dX9_readSum_59 3 rfl ?_
                  refine x_iconst dX9_readSum_60 ki_m1 ?_
                  refine x_icmp_eq (x := (-1)) (y := (-1)) (tgt := 70) dX9_readSum_61 (by decide) (fun c61 => ?_) (fun c61 => ?_)
                  · refine x_iload dX9_readSum_70 1 rfl ?_
                    refine x_iconst dX9_readSum_72 ki_2 ?_
                    refine x_icmp_eq (x := (-1)) (y := nI 2) (tgt := 82) dX9_readSum_73 (by decide) (fun c73 => ?_) (fun c73 => ?_)
                    · exact absurd c73 (by decide)
                    · refine x_pc (pc' := 76) rfl ?_
                      refine x_iload dX9_readSum_76 1 rfl ?_
                      refine x_iconst dX9_readSum_78 ki_3 ?_
                      refine x_icmp_ne (x := (-1)) (y := nI 3) (tgt := 87) dX9_readSum_79 (by decide) (fun c79 => ?_) (fun c79 => ?_)
                      · refine x_iconst dX9_readSum_87 ki_m1 ?_
                        refine x_istore_n (ls' := [(1, .int (-1)), (2, .int (-1)), (4, .int (-1)), (3, .int (nI v)), (0, .ref b)]) dX9_readSum_88 (by decide) rfl ?_
                        refine x_iload_n dX9_readSum_89 0 rfl ?_
                        refine x_iconst dX9_readSum_90 ki_m1 ?_
                        refine x_icmp_ne (x := (-1)) (y := (-1)) (tgt := 95) dX9_readSum_91 (by decide) (fun c91 => ?_) (fun c91 => ?_)
                        · exact absurd rfl c91
                        · exact x_vret dX9_readSum_94 rfl (xEx_i G3 (by rw [← hR, sumL_n (iT := (some kt)) hst]; exact hW3) rfl rfl rfl)
                      · exact absurd c79 (by decide)
                  · exact absurd rfl c61
                · refine x_leq (ls' := [(2, .int (-1)), (4, .int (-1)), (3, .int (nI v)), (1, .int (nI ks)), (0, .ref b)]) rfl ?_
                  have hks := hS ks rfl
                  refine x_iload_n dX9_readSum_59 3 rfl ?_
                  refine x_iconst dX9_readSum_60 ki_m1 ?_
                  refine x_icmp_eq (x := nI ks) (y := (-1)) (tgt := 70) dX9_readSum_61 (by decide) (fun c61 => ?_) (fun c61 => ?_)
                  · exact absurd c61 (nI_ne1 (by omega))
                  · refine x_aload_n dX9_readSum_64 4 rfl ?_
                    refine x_iload_n dX9_readSum_65 3 rfl ?_
                    refine x_iconst dX9_readSum_66 ki_0 ?_
                    refine x_pc (pc' := 67) rfl ?_
                    refine x_cVe (N := mX9_putStep) (d' := 0) (mc := 0) (ms := 0) (cb := 0) (sb := 0) (As := [.int (nI ks), .int (nI 0)]) (st := []) dX9_readSum_67 mX9_putStep_v lX9_77 rfl rfl (hW3.2.1) rfl (by decide) (Nat.le_of_ble_eq_true rfl) (Rr_put hW3 (by omega) (by decide)) rfl (sf := fun G4 => []) (fun _ => rfl) (fun G4 hW4 => ?_)
                    obtain ⟨u24, u34, u44, u54, u64, hc4⟩ := hW4.1.cell
                    refine x_iload dX9_readSum_70 1 rfl ?_
                    refine x_iconst dX9_readSum_72 ki_2 ?_
                    refine x_icmp_eq (x := (-1)) (y := nI 2) (tgt := 82) dX9_readSum_73 (by decide) (fun c73 => ?_) (fun c73 => ?_)
                    · exact absurd c73 (by decide)
                    · refine x_iload dX9_readSum_76 1 rfl ?_
                      refine x_iconst dX9_readSum_78 ki_3 ?_
                      refine x_icmp_ne (x := (-1)) (y := nI 3) (tgt := 87) dX9_readSum_79 (by decide) (fun c79 => ?_) (fun c79 => ?_)
                      · refine x_iconst dX9_readSum_87 ki_m1 ?_
                        refine x_istore_n (ls' := [(1, .int (-1)), (2, .int (-1)), (4, .int (-1)), (3, .int (nI v)), (0, .ref b)]) dX9_readSum_88 (by decide) rfl ?_
                        refine x_iload_n dX9_readSum_89 0 rfl ?_
                        refine x_pc (pc' := 90) rfl ?_
                        refine x_iconst dX9_readSum_90 ki_m1 ?_
                        refine x_icmp_ne (x := (-1)) (y := (-1)) (tgt := 95) dX9_readSum_91 (by decide) (fun c91 => ?_) (fun c91 => ?_)
                        · exact absurd rfl c91
                        · exact x_vret dX9_readSum_94 rfl (xEx_i G4 (by rw [← hR, sumL_n (iT := (some kt)) hst]; exact hW4) rfl rfl rfl)
                      · exact absurd c79 (by decide)
            · exact absurd c37 (by decide)
          · refine x_leq (ls' := [(4, .int (nI c)), (3, .int (nI v)), (2, .int (nI kt)), (1, .int (chI iS)), (0, .ref b)]) rfl ?_
            have hcl := stp_lt hst
            obtain ⟨hz0, hz3, hz1, hz2⟩ := hcl
            refine x_iload dX9_readSum_34 0 rfl ?_
            refine x_iconst dX9_readSum_36 ki_4 ?_
            refine x_icmpN_lt (tgt := 52) dX9_readSum_37 (by decide) (by omega) (by omega) (fun c37 => ?_) (fun c37 => ?_)
            · refine x_iconst dX9_readSum_52 ki_m1 ?_
              refine x_pc (pc' := 53) rfl ?_
              refine x_istore_n (ls' := [(2, .int (-1)), (4, .int (nI c)), (3, .int (nI v)), (1, .int (chI iS)), (0, .ref b)]) dX9_readSum_53 (by decide) rfl ?_
              refine x_iload_n dX9_readSum_54 0 rfl ?_
              refine x_iconst dX9_readSum_55 ki_m1 ?_
              refine x_icmp_ne (x := (-1)) (y := (-1)) (tgt := 95) dX9_readSum_56 (by decide) (fun c56 => ?_) (fun c56 => ?_)
              · exact absurd rfl c56
              · rcases iS with _ | ks
                · refine x_leq (ls' := [(2, .int (-1)), (4, .int (nI c)), (3, .int (nI v)), (1, .int (-1)), (0, .ref b)]) rfl ?_
                  refine x_iload_n dX9_readSum_59 3 rfl ?_
                  refine x_iconst dX9_readSum_60 ki_m1 ?_
                  refine x_icmp_eq (x := (-1)) (y := (-1)) (tgt := 70) dX9_readSum_61 (by decide) (fun c61 => ?_) (fun c61 => ?_)
                  · refine x_iload dX9_readSum_70 1 rfl ?_
                    refine x_iconst dX9_readSum_72 ki_2 ?_
                    refine x_icmpN_eq (tgt := 82) dX9_readSum_73 (by decide) (by omega) (by omega) (fun c73 => ?_) (fun c73 => ?_)
                    · refine x_pc (pc' := 82) rfl ?_
                      refine x_iload dX9_readSum_82 1 rfl ?_
                      refine x_goto (tgt := 88) dX9_readSum_84 (by decide) ?_
                      refine x_istore_n (ls' := [(1, .int (nI c)), (2, .int (-1)), (4, .int (nI c)), (3, .int (nI v)), (0, .ref b)]) dX9_readSum_88 (by decide) rfl ?_
                      refine x_iload_n dX9_readSum_89 0 rfl ?_
                      refine x_iconst dX9_readSum_90 ki_m1 ?_
                      refine x_icmp_ne (x := nI c) (y := (-1)) (tgt := 95) dX9_readSum_91 (by decide) (fun c91 => ?_) (fun c91 => ?_)
                      · refine x_aload_n dX9_readSum_95 4 rfl ?_
                        refine x_get dX9_readSum_96 fX9_20 (hW3.2.1) rfl ?_
                        refine x_cVe (N := mX7_next) (d' := 0) (mc := 0) (ms := 0) (cb := 0) (sb := 0) (As := []) (st := []) dX9_readSum_99 mX7_next_v lX9_42 rfl rfl (hc3) rfl (by decide) (Nat.le_of_ble_eq_true rfl) (hW3.nx (hz0)) rfl (sf := fun G5 => []) (fun _ => rfl) (fun G5 hW5 => ?_)
                        obtain ⟨u25, u35, u45, u55, u65, hc5⟩ := hW5.1.cell
                        refine x_iinc (v := nI (v + 1)) (ls' := [(3, .int (nI (v + 1))), (1, .int (nI c)), (2, .int (-1)), (4, .int (nI c)), (0, .ref b)]) dX9_readSum_102 3 rfl (nIs _) (by decide) rfl ?_
                        refine x_pc (pc' := 105) rfl ?_
                        refine x_goto (tgt := 6) dX9_readSum_105 (by decide) ?_
                        refine x_perm (ls' := [(3, .int (nI (v + 1))), (2, .int (-1)), (1, .int (nI c)), (0, .ref b)]) [0, 2, 1, 4] rfl ?_
                        refine x_leq (ls' := [(3, .int (nI (v + 1))), (2, .int (chI none)), (1, .int (chI (some c))), (0, .ref b)]) rfl ?_
                        exact ih (v + 1) (some c) none _ G5 (by omega) (fun j q => by simp at q; omega) (fun j q => by simp at q) (by rw [← hR, sumL_p (iT := (some kt)) hst (by omega)]; rfl) hW5
                      · exact absurd c91 (nI_ne1 (by omega))
                    · refine x_pc (pc' := 76) rfl ?_
                      refine x_iload dX9_readSum_76 1 rfl ?_
                      refine x_iconst dX9_readSum_78 ki_3 ?_
                      refine x_icmpN_ne (tgt := 87) dX9_readSum_79 (by decide) (by omega) (by omega) (fun c79 => ?_) (fun c79 => ?_)
                      · refine x_iconst dX9_readSum_87 ki_m1 ?_
                        refine x_istore_n (ls' := [(1, .int (-1)), (2, .int (-1)), (4, .int (nI c)), (3, .int (nI v)), (0, .ref b)]) dX9_readSum_88 (by decide) rfl ?_
                        refine x_iload_n dX9_readSum_89 0 rfl ?_
                        refine x_iconst dX9_readSum_90 ki_m1 ?_
                        refine x_icmp_ne (x := (-1)) (y := (-1)) (tgt := 95) dX9_readSum_91 (by decide) (fun c91 => ?_) (fun c91 => ?_)
                        · exact absurd rfl c91
                        · exact x_vret dX9_readSum_94 rfl (xEx_i G3 (by rw [← hR, sumL_e (iT := (some kt)) hst (by omega) (by omega)]; exact hW3) rfl rfl rfl)
                      · refine x_iload dX9_readSum_82 1 rfl ?_
                        refine x_goto (tgt := 88) dX9_readSum_84 (by decide) ?_
                        refine x_istore_n (ls' := [(1, .int (nI c)), (2, .int (-1)), (4, .int (nI c)), (3, .int (nI v)), (0, .ref b)]) dX9_readSum_88 (by decide) rfl ?_
                        refine x_iload_n dX9_readSum_89 0 rfl ?_
                        refine x_iconst dX9_readSum_90 ki_m1 ?_
                        refine x_icmp_ne (x := nI c) (y := (-1)) (tgt := 95) dX9_readSum_91 (by decide) (fun c91 => ?_) (fun c91 => ?_)
                        · refine x_aload_n dX9_readSum_95 4 rfl ?_
                          refine x_pc (pc' := 96) rfl ?_
                          refine x_get dX9_readSum_96 fX9_20 (hW3.2.1) rfl ?_
                          refine x_cVe (N := mX7_next) (d' := 0) (mc := 0) (ms := 0) (cb := 0) (sb := 0) (As := []) (st := []) dX9_readSum_99 mX7_next_v lX9_42 rfl rfl (hc3) rfl (by decide) (Nat.le_of_ble_eq_true rfl) (hW3.nx (hz0)) rfl (sf := fun G6 => []) (fun _ => rfl) (fun G6 hW6 => ?_)
                          obtain ⟨u26, u36, u46, u56, u66, hc6⟩ := hW6.1.cell
                          refine x_iinc (v := nI (v + 1)) (ls' := [(3, .int (nI (v + 1))), (1, .int (nI c)), (2, .int (-1)), (4, .int (nI c)), (0, .ref b)]) dX9_readSum_102 3 rfl (nIs _) (by decide) rfl ?_
                          refine x_goto (tgt := 6) dX9_readSum_105 (by decide) ?_
                          refine x_perm (ls' := [(3, .int (nI (v + 1))), (2, .int (-1)), (1, .int (nI c)), (0, .ref b)]) [0, 2, 1, 4] rfl ?_
                          refine x_leq (ls' := [(3, .int (nI (v + 1))), (2, .int (chI none)), (1, .int (chI (some c))), (0, .ref b)]) rfl ?_
                          exact ih (v + 1) (some c) none _ G6 (by omega) (fun j q => by simp at q; omega) (fun j q => by simp at q) (by rw [← hR, sumL_p (iT := (some kt)) hst (by omega)]; rfl) hW6
                        · exact absurd c91 (nI_ne1 (by omega))
                  · exact absurd rfl c61
                · refine x_leq (ls' := [(2, .int (-1)), (4, .int (nI c)), (3, .int (nI v)), (1, .int (nI ks)), (0, .ref b)]) rfl ?_
                  have hks := hS ks rfl
                  refine x_iload_n dX9_readSum_59 3 rfl ?_
                  refine x_iconst dX9_readSum_60 ki_m1 ?_
                  refine x_icmp_eq (x := nI ks) (y := (-1)) (tgt := 70) dX9_readSum_61 (by decide) (fun c61 => ?_) (fun c61 => ?_)
                  · exact absurd c61 (nI_ne1 (by omega))
                  · refine x_aload_n dX9_readSum_64 4 rfl ?_
                    refine x_iload_n dX9_readSum_65 3 rfl ?_
                    refine x_iconst dX9_readSum_66 ki_0 ?_
                    refine x_pc (pc' := 67) rfl ?_
                    refine x_cVe (N := mX9_putStep) (d' := 0) (mc := 0) (ms := 0) (cb := 0) (sb := 0) (As := [.int (nI ks), .int (nI 0)]) (st := []) dX9_readSum_67 mX9_putStep_v lX9_77 rfl rfl (hW3.2.1) rfl (by decide) (Nat.le_of_ble_eq_true rfl) (Rr_put hW3 (by omega) (by decide)) rfl (sf := fun G7 => []) (fun _ => rfl) (fun G7 hW7 => ?_)
                    obtain ⟨u27, u37, u47, u57, u67, hc7⟩ := hW7.1.cell
                    refine x_iload dX9_readSum_70 1 rfl ?_
                    refine x_iconst dX9_readSum_72 ki_2 ?_
                    refine x_icmpN_eq (tgt := 82) dX9_readSum_73 (by decide) (by omega) (by omega) (fun c73 => ?_) (fun c73 => ?_)
                    · refine x_iload dX9_readSum_82 1 rfl ?_
                      refine x_goto (tgt := 88) dX9_readSum_84 (by decide) ?_
                      refine x_istore_n (ls' := [(1, .int (nI c)), (2, .int (-1)), (4, .int (nI c)), (3, .int (nI v)), (0, .ref b)]) dX9_readSum_88 (by decide) rfl ?_
                      refine x_iload_n dX9_readSum_89 0 rfl ?_
                      refine x_iconst dX9_readSum_90 ki_m1 ?_
                      refine x_icmp_ne (x := nI c) (y := (-1)) (tgt := 95) dX9_readSum_91 (by decide) (fun c91 => ?_) (fun c91 => ?_)
                      · refine x_pc (pc' := 95) rfl ?_
                        refine x_aload_n dX9_readSum_95 4 rfl ?_
                        refine x_get dX9_readSum_96 fX9_20 (hW7.2.1) rfl ?_
                        refine x_cVe (N := mX7_next) (d' := 0) (mc := 0) (ms := 0) (cb := 0) (sb := 0) (As := []) (st := []) dX9_readSum_99 mX7_next_v lX9_42 rfl rfl (hc7) rfl (by decide) (Nat.le_of_ble_eq_true rfl) (hW7.nx (putP_f.1.trans hz0)) rfl (sf := fun G8 => []) (fun _ => rfl) (fun G8 hW8 => ?_)
                        obtain ⟨u28, u38, u48, u58, u68, hc8⟩ := hW8.1.cell
                        refine x_iinc (v := nI (v + 1)) (ls' := [(3, .int (nI (v + 1))), (1, .int (nI c)), (2, .int (-1)), (4, .int (nI c)), (0, .ref b)]) dX9_readSum_102 3 rfl (nIs _) (by decide) rfl ?_
                        refine x_goto (tgt := 6) dX9_readSum_105 (by decide) ?_
                        refine x_perm (ls' := [(3, .int (nI (v + 1))), (2, .int (-1)), (1, .int (nI c)), (0, .ref b)]) [0, 2, 1, 4] rfl ?_
                        refine x_leq (ls' := [(3, .int (nI (v + 1))), (2, .int (chI none)), (1, .int (chI (some c))), (0, .ref b)]) rfl ?_
                        exact ih (v + 1) (some c) none _ G8 (by omega) (fun j q => by simp at q; omega) (fun j q => by simp at q) (by rw [← hR, sumL_p (iT := (some kt)) hst (by omega)]; rfl) hW8
                      · exact absurd c91 (nI_ne1 (by omega))
                    · refine x_iload dX9_readSum_76 1 rfl ?_
                      refine x_iconst dX9_readSum_78 ki_3 ?_
                      refine x_icmpN_ne (tgt := 87) dX9_readSum_79 (by decide) (by omega) (by omega) (fun c79 => ?_) (fun c79 => ?_)
                      · refine x_iconst dX9_readSum_87 ki_m1 ?_
                        refine x_istore_n (ls' := [(1, .int (-1)), (2, .int (-1)), (4, .int (nI c)), (3, .int (nI v)), (0, .ref b)]) dX9_readSum_88 (by decide) rfl ?_
                        refine x_iload_n dX9_readSum_89 0 rfl ?_
                        refine x_pc (pc' := 90) rfl ?_
                        refine x_iconst dX9_readSum_90 ki_m1 ?_
                        refine x_icmp_ne (x := (-1)) (y := (-1)) (tgt := 95) dX9_readSum_91 (by decide) (fun c91 => ?_) (fun c91 => ?_)
                        · exact absurd rfl c91
                        · exact x_vret dX9_readSum_94 rfl (xEx_i G7 (by rw [← hR, sumL_e (iT := (some kt)) hst (by omega) (by omega)]; exact hW7) rfl rfl rfl)
                      · refine x_iload dX9_readSum_82 1 rfl ?_
                        refine x_goto (tgt := 88) dX9_readSum_84 (by decide) ?_
                        refine x_istore_n (ls' := [(1, .int (nI c)), (2, .int (-1)), (4, .int (nI c)), (3, .int (nI v)), (0, .ref b)]) dX9_readSum_88 (by decide) rfl ?_
                        refine x_pc (pc' := 89) rfl ?_
                        refine x_iload_n dX9_readSum_89 0 rfl ?_
                        refine x_iconst dX9_readSum_90 ki_m1 ?_
                        refine x_icmp_ne (x := nI c) (y := (-1)) (tgt := 95) dX9_readSum_91 (by decide) (fun c91 => ?_) (fun c91 => ?_)
                        · refine x_aload_n dX9_readSum_95 4 rfl ?_
                          refine x_get dX9_readSum_96 fX9_20 (hW7.2.1) rfl ?_
                          refine x_cVe (N := mX7_next) (d' := 0) (mc := 0) (ms := 0) (cb := 0) (sb := 0) (As := []) (st := []) dX9_readSum_99 mX7_next_v lX9_42 rfl rfl (hc7) rfl (by decide) (Nat.le_of_ble_eq_true rfl) (hW7.nx (putP_f.1.trans hz0)) rfl (sf := fun G9 => []) (fun _ => rfl) (fun G9 hW9 => ?_)
                          obtain ⟨u29, u39, u49, u59, u69, hc9⟩ := hW9.1.cell
                          refine x_iinc (v := nI (v + 1)) (ls' := [(3, .int (nI (v + 1))), (1, .int (nI c)), (2, .int (-1)), (4, .int (nI c)), (0, .ref b)]) dX9_readSum_102 3 rfl (nIs _) (by decide) rfl ?_
                          refine x_goto (tgt := 6) dX9_readSum_105 (by decide) ?_
                          refine x_perm (ls' := [(3, .int (nI (v + 1))), (2, .int (-1)), (1, .int (nI c)), (0, .ref b)]) [0, 2, 1, 4] rfl ?_
                          refine x_leq (ls' := [(3, .int (nI (v + 1))), (2, .int (chI none)), (1, .int (chI (some c))), (0, .ref b)]) rfl ?_
                          exact ih (v + 1) (some c) none _ G9 (by omega) (fun j q => by simp at q; omega) (fun j q => by simp at q) (by rw [← hR, sumL_p (iT := (some kt)) hst (by omega)]; rfl) hW9
                        · exact absurd c91 (nI_ne1 (by omega))
            · refine x_iload dX9_readSum_40 0 rfl ?_
              refine x_pc (pc' := 42) rfl ?_
              refine x_bipush dX9_readSum_42 kb_6 ?_
              refine x_icmpN_gt (tgt := 52) dX9_readSum_44 (by decide) (by omega) (by omega) (fun c44 => ?_) (fun c44 => ?_)
              · refine x_iconst dX9_readSum_52 ki_m1 ?_
                refine x_istore_n (ls' := [(2, .int (-1)), (4, .int (nI c)), (3, .int (nI v)), (1, .int (chI iS)), (0, .ref b)]) dX9_readSum_53 (by decide) rfl ?_
                refine x_iload_n dX9_readSum_54 0 rfl ?_
                refine x_iconst dX9_readSum_55 ki_m1 ?_
                refine x_icmp_ne (x := (-1)) (y := (-1)) (tgt := 95) dX9_readSum_56 (by decide) (fun c56 => ?_) (fun c56 => ?_)
                · exact absurd rfl c56
                · rcases iS with _ | ks
                  · refine x_leq (ls' := [(2, .int (-1)), (4, .int (nI c)), (3, .int (nI v)), (1, .int (-1)), (0, .ref b)]) rfl ?_
                    refine x_iload_n dX9_readSum_59 3 rfl ?_
                    refine x_iconst dX9_readSum_60 ki_m1 ?_
                    refine x_icmp_eq (x := (-1)) (y := (-1)) (tgt := 70) dX9_readSum_61 (by decide) (fun c61 => ?_) (fun c61 => ?_)
                    · refine x_pc (pc' := 70) rfl ?_
                      refine x_iload dX9_readSum_70 1 rfl ?_
                      refine x_iconst dX9_readSum_72 ki_2 ?_
                      refine x_icmpN_eq (tgt := 82) dX9_readSum_73 (by decide) (by omega) (by omega) (fun c73 => ?_) (fun c73 => ?_)
                      · refine x_iload dX9_readSum_82 1 rfl ?_
                        refine x_goto (tgt := 88) dX9_readSum_84 (by decide) ?_
                        refine x_istore_n (ls' := [(1, .int (nI c)), (2, .int (-1)), (4, .int (nI c)), (3, .int (nI v)), (0, .ref b)]) dX9_readSum_88 (by decide) rfl ?_
                        refine x_iload_n dX9_readSum_89 0 rfl ?_
                        refine x_iconst dX9_readSum_90 ki_m1 ?_
                        refine x_icmp_ne (x := nI c) (y := (-1)) (tgt := 95) dX9_readSum_91 (by decide) (fun c91 => ?_) (fun c91 => ?_)
                        · refine x_aload_n dX9_readSum_95 4 rfl ?_
                          refine x_pc (pc' := 96) rfl ?_
                          refine x_get dX9_readSum_96 fX9_20 (hW3.2.1) rfl ?_
                          refine x_cVe (N := mX7_next) (d' := 0) (mc := 0) (ms := 0) (cb := 0) (sb := 0) (As := []) (st := []) dX9_readSum_99 mX7_next_v lX9_42 rfl rfl (hc3) rfl (by decide) (Nat.le_of_ble_eq_true rfl) (hW3.nx (hz0)) rfl (sf := fun G10 => []) (fun _ => rfl) (fun G10 hW10 => ?_)
                          obtain ⟨u210, u310, u410, u510, u610, hc10⟩ := hW10.1.cell
                          refine x_iinc (v := nI (v + 1)) (ls' := [(3, .int (nI (v + 1))), (1, .int (nI c)), (2, .int (-1)), (4, .int (nI c)), (0, .ref b)]) dX9_readSum_102 3 rfl (nIs _) (by decide) rfl ?_
                          refine x_goto (tgt := 6) dX9_readSum_105 (by decide) ?_
                          refine x_perm (ls' := [(3, .int (nI (v + 1))), (2, .int (-1)), (1, .int (nI c)), (0, .ref b)]) [0, 2, 1, 4] rfl ?_
                          refine x_leq (ls' := [(3, .int (nI (v + 1))), (2, .int (chI none)), (1, .int (chI (some c))), (0, .ref b)]) rfl ?_
                          exact ih (v + 1) (some c) none _ G10 (by omega) (fun j q => by simp at q; omega) (fun j q => by simp at q) (by rw [← hR, sumL_p (iT := (some kt)) hst (by omega)]; rfl) hW10
                        · exact absurd c91 (nI_ne1 (by omega))
                      · refine x_iload dX9_readSum_76 1 rfl ?_
                        refine x_iconst dX9_readSum_78 ki_3 ?_
                        refine x_icmpN_ne (tgt := 87) dX9_readSum_79 (by decide) (by omega) (by omega) (fun c79 => ?_) (fun c79 => ?_)
                        · refine x_iconst dX9_readSum_87 ki_m1 ?_
                          refine x_istore_n (ls' := [(1, .int (-1)), (2, .int (-1)), (4, .int (nI c)), (3, .int (nI v)), (0, .ref b)]) dX9_readSum_88 (by decide) rfl ?_
                          refine x_iload_n dX9_readSum_89 0 rfl ?_
                          refine x_iconst dX9_readSum_90 ki_m1 ?_
                          refine x_pc (pc' := 91) rfl ?_
                          refine x_icmp_ne (x := (-1)) (y := (-1)) (tgt := 95) dX9_readSum_91 (by decide) (fun c91 => ?_) (fun c91 => ?_)
                          · exact absurd rfl c91
                          · exact x_vret dX9_readSum_94 rfl (xEx_i G3 (by rw [← hR, sumL_e (iT := (some kt)) hst (by omega) (by omega)]; exact hW3) rfl rfl rfl)
                        · refine x_iload dX9_readSum_82 1 rfl ?_
                          refine x_goto (tgt := 88) dX9_readSum_84 (by decide) ?_
                          refine x_istore_n (ls' := [(1, .int (nI c)), (2, .int (-1)), (4, .int (nI c)), (3, .int (nI v)), (0, .ref b)]) dX9_readSum_88 (by decide) rfl ?_
                          refine x_iload_n dX9_readSum_89 0 rfl ?_
                          refine x_pc (pc' := 90) rfl ?_
                          refine x_iconst dX9_readSum_90 ki_m1 ?_
                          refine x_icmp_ne (x := nI c) (y := (-1)) (tgt := 95) dX9_readSum_91 (by decide) (fun c91 => ?_) (fun c91 => ?_)
                          · refine x_aload_n dX9_readSum_95 4 rfl ?_
                            refine x_get dX9_readSum_96 fX9_20 (hW3.2.1) rfl ?_
                            refine x_cVe (N := mX7_next) (d' := 0) (mc := 0) (ms := 0) (cb := 0) (sb := 0) (As := []) (st := []) dX9_readSum_99 mX7_next_v lX9_42 rfl rfl (hc3) rfl (by decide) (Nat.le_of_ble_eq_true rfl) (hW3.nx (hz0)) rfl (sf := fun G11 => []) (fun _ => rfl) (fun G11 hW11 => ?_)
                            obtain ⟨u211, u311, u411, u511, u611, hc11⟩ := hW11.1.cell
                            refine x_iinc (v := nI (v + 1)) (ls' := [(3, .int (nI (v + 1))), (1, .int (nI c)), (2, .int (-1)), (4, .int (nI c)), (0, .ref b)]) dX9_readSum_102 3 rfl (nIs _) (by decide) rfl ?_
                            refine x_goto (tgt := 6) dX9_readSum_105 (by decide) ?_
                            refine x_perm (ls' := [(3, .int (nI (v + 1))), (2, .int (-1)), (1, .int (nI c)), (0, .ref b)]) [0, 2, 1, 4] rfl ?_
                            refine x_leq (ls' := [(3, .int (nI (v + 1))), (2, .int (chI none)), (1, .int (chI (some c))), (0, .ref b)]) rfl ?_
                            exact ih (v + 1) (some c) none _ G11 (by omega) (fun j q => by simp at q; omega) (fun j q => by simp at q) (by rw [← hR, sumL_p (iT := (some kt)) hst (by omega)]; rfl) hW11
                          · exact absurd c91 (nI_ne1 (by omega))
                    · exact absurd rfl c61
                  · refine x_leq (ls' := [(2, .int (-1)), (4, .int (nI c)), (3, .int (nI v)), (1, .int (nI ks)), (0, .ref b)]) rfl ?_
                    have hks := hS ks rfl
                    refine x_iload_n dX9_readSum_59 3 rfl ?_
                    refine x_iconst dX9_readSum_60 ki_m1 ?_
                    refine x_icmp_eq (x := nI ks) (y := (-1)) (tgt := 70) dX9_readSum_61 (by decide) (fun c61 => ?_) (fun c61 => ?_)
                    · exact absurd c61 (nI_ne1 (by omega))
                    · refine x_pc (pc' := 64) rfl ?_
                      refine x_aload_n dX9_readSum_64 4 rfl ?_
                      refine x_iload_n dX9_readSum_65 3 rfl ?_
                      refine x_iconst dX9_readSum_66 ki_0 ?_
                      refine x_cVe (N := mX9_putStep) (d' := 0) (mc := 0) (ms := 0) (cb := 0) (sb := 0) (As := [.int (nI ks), .int (nI 0)]) (st := []) dX9_readSum_67 mX9_putStep_v lX9_77 rfl rfl (hW3.2.1) rfl (by decide) (Nat.le_of_ble_eq_true rfl) (Rr_put hW3 (by omega) (by decide)) rfl (sf := fun G12 => []) (fun _ => rfl) (fun G12 hW12 => ?_)
                      obtain ⟨u212, u312, u412, u512, u612, hc12⟩ := hW12.1.cell
                      refine x_iload dX9_readSum_70 1 rfl ?_
                      refine x_iconst dX9_readSum_72 ki_2 ?_
                      refine x_icmpN_eq (tgt := 82) dX9_readSum_73 (by decide) (by omega) (by omega) (fun c73 => ?_) (fun c73 => ?_)
                      · refine x_iload dX9_readSum_82 1 rfl ?_
                        refine x_goto (tgt := 88) dX9_readSum_84 (by decide) ?_
                        refine x_istore_n (ls' := [(1, .int (nI c)), (2, .int (-1)), (4, .int (nI c)), (3, .int (nI v)), (0, .ref b)]) dX9_readSum_88 (by decide) rfl ?_
                        refine x_pc (pc' := 89) rfl ?_
                        refine x_iload_n dX9_readSum_89 0 rfl ?_
                        refine x_iconst dX9_readSum_90 ki_m1 ?_
                        refine x_icmp_ne (x := nI c) (y := (-1)) (tgt := 95) dX9_readSum_91 (by decide) (fun c91 => ?_) (fun c91 => ?_)
                        · refine x_aload_n dX9_readSum_95 4 rfl ?_
                          refine x_get dX9_readSum_96 fX9_20 (hW12.2.1) rfl ?_
                          refine x_cVe (N := mX7_next) (d' := 0) (mc := 0) (ms := 0) (cb := 0) (sb := 0) (As := []) (st := []) dX9_readSum_99 mX7_next_v lX9_42 rfl rfl (hc12) rfl (by decide) (Nat.le_of_ble_eq_true rfl) (hW12.nx (putP_f.1.trans hz0)) rfl (sf := fun G13 => []) (fun _ => rfl) (fun G13 hW13 => ?_)
                          obtain ⟨u213, u313, u413, u513, u613, hc13⟩ := hW13.1.cell
                          refine x_iinc (v := nI (v + 1)) (ls' := [(3, .int (nI (v + 1))), (1, .int (nI c)), (2, .int (-1)), (4, .int (nI c)), (0, .ref b)]) dX9_readSum_102 3 rfl (nIs _) (by decide) rfl ?_
                          refine x_goto (tgt := 6) dX9_readSum_105 (by decide) ?_
                          refine x_perm (ls' := [(3, .int (nI (v + 1))), (2, .int (-1)), (1, .int (nI c)), (0, .ref b)]) [0, 2, 1, 4] rfl ?_
                          refine x_leq (ls' := [(3, .int (nI (v + 1))), (2, .int (chI none)), (1, .int (chI (some c))), (0, .ref b)]) rfl ?_
                          exact ih (v + 1) (some c) none _ G13 (by omega) (fun j q => by simp at q; omega) (fun j q => by simp at q) (by rw [← hR, sumL_p (iT := (some kt)) hst (by omega)]; rfl) hW13
                        · exact absurd c91 (nI_ne1 (by omega))
                      · refine x_iload dX9_readSum_76 1 rfl ?_
                        refine x_iconst dX9_readSum_78 ki_3 ?_
                        refine x_icmpN_ne (tgt := 87) dX9_readSum_79 (by decide) (by omega) (by omega) (fun c79 => ?_) (fun c79 => ?_)
                        · refine x_pc (pc' := 87) rfl ?_
                          refine x_iconst dX9_readSum_87 ki_m1 ?_
                          refine x_istore_n (ls' := [(1, .int (-1)), (2, .int (-1)), (4, .int (nI c)), (3, .int (nI v)), (0, .ref b)]) dX9_readSum_88 (by decide) rfl ?_
                          refine x_iload_n dX9_readSum_89 0 rfl ?_
                          refine x_iconst dX9_readSum_90 ki_m1 ?_
                          refine x_icmp_ne (x := (-1)) (y := (-1)) (tgt := 95) dX9_readSum_91 (by decide) (fun c91 => ?_) (fun c91 => ?_)
                          · exact absurd rfl c91
                          · exact x_vret dX9_readSum_94 rfl (xEx_i G12 (by rw [← hR, sumL_e (iT := (some kt)) hst (by omega) (by omega)]; exact hW12) rfl rfl rfl)
                        · refine x_pc (pc' := 82) rfl ?_
                          refine x_iload dX9_readSum_82 1 rfl ?_
                          refine x_goto (tgt := 88) dX9_readSum_84 (by decide) ?_
                          refine x_istore_n (ls' := [(1, .int (nI c)), (2, .int (-1)), (4, .int (nI c)), (3, .int (nI v)), (0, .ref b)]) dX9_readSum_88 (by decide) rfl ?_
                          refine x_iload_n dX9_readSum_89 0 rfl ?_
                          refine x_iconst dX9_readSum_90 ki_m1 ?_
                          refine x_icmp_ne (x := nI c) (y := (-1)) (tgt := 95) dX9_readSum_91 (by decide) (fun c91 => ?_) (fun c91 => ?_)
                          · refine x_aload_n dX9_readSum_95 4 rfl ?_
                            refine x_get dX9_readSum_96 fX9_20 (hW12.2.1) rfl ?_
                            refine x_cVe (N := mX7_next) (d' := 0) (mc := 0) (ms := 0) (cb := 0) (sb := 0) (As := []) (st := []) dX9_readSum_99 mX7_next_v lX9_42 rfl rfl (hc12) rfl (by decide) (Nat.le_of_ble_eq_true rfl) (hW12.nx (putP_f.1.trans hz0)) rfl (sf := fun G14 => []) (fun _ => rfl) (fun G14 hW14 => ?_)
                            obtain ⟨u214, u314, u414, u514, u614, hc14⟩ := hW14.1.cell
                            refine x_iinc (v := nI (v + 1)) (ls' := [(3, .int (nI (v + 1))), (1, .int (nI c)), (2, .int (-1)), (4, .int (nI c)), (0, .ref b)]) dX9_readSum_102 3 rfl (nIs _) (by decide) rfl ?_
                            refine x_pc (pc' := 105) rfl ?_
                            refine x_goto (tgt := 6) dX9_readSum_105 (by decide) ?_
                            refine x_perm (ls' := [(3, .int (nI (v + 1))), (2, .int (-1)), (1, .int (nI c)), (0, .ref b)]) [0, 2, 1, 4] rfl ?_
                            refine x_leq (ls' := [(3, .int (nI (v + 1))), (2, .int (chI none)), (1, .int (chI (some c))), (0, .ref b)]) rfl ?_
                            exact ih (v + 1) (some c) none _ G14 (by omega) (fun j q => by simp at q; omega) (fun j q => by simp at q) (by rw [← hR, sumL_p (iT := (some kt)) hst (by omega)]; rfl) hW14
                          · exact absurd c91 (nI_ne1 (by omega))
              · refine x_iload dX9_readSum_47 0 rfl ?_
                refine x_goto (tgt := 53) dX9_readSum_49 (by decide) ?_
                refine x_istore_n (ls' := [(2, .int (nI c)), (4, .int (nI c)), (3, .int (nI v)), (1, .int (chI iS)), (0, .ref b)]) dX9_readSum_53 (by decide) rfl ?_
                refine x_iload_n dX9_readSum_54 0 rfl ?_
                refine x_iconst dX9_readSum_55 ki_m1 ?_
                refine x_icmp_ne (x := nI c) (y := (-1)) (tgt := 95) dX9_readSum_56 (by decide) (fun c56 => ?_) (fun c56 => ?_)
                · refine x_aload_n dX9_readSum_95 4 rfl ?_
                  refine x_get dX9_readSum_96 fX9_20 (hW3.2.1) rfl ?_
                  refine x_pc (pc' := 99) rfl ?_
                  refine x_cVe (N := mX7_next) (d' := 0) (mc := 0) (ms := 0) (cb := 0) (sb := 0) (As := []) (st := []) dX9_readSum_99 mX7_next_v lX9_42 rfl rfl (hc3) rfl (by decide) (Nat.le_of_ble_eq_true rfl) (hW3.nx (hz0)) rfl (sf := fun G15 => []) (fun _ => rfl) (fun G15 hW15 => ?_)
                  obtain ⟨u215, u315, u415, u515, u615, hc15⟩ := hW15.1.cell
                  refine x_iinc (v := nI (v + 1)) (ls' := [(3, .int (nI (v + 1))), (2, .int (nI c)), (4, .int (nI c)), (1, .int (chI iS)), (0, .ref b)]) dX9_readSum_102 2 rfl (nIs _) (by decide) rfl ?_
                  refine x_goto (tgt := 6) dX9_readSum_105 (by decide) ?_
                  refine x_perm (ls' := [(3, .int (nI (v + 1))), (2, .int (nI c)), (1, .int (chI iS)), (0, .ref b)]) [0, 1, 3, 4] rfl ?_
                  refine x_leq (ls' := [(3, .int (nI (v + 1))), (2, .int (chI (some c))), (1, .int (chI iS)), (0, .ref b)]) rfl ?_
                  exact ih (v + 1) iS (some c) _ G15 (by omega) hS (fun j q => by simp at q; omega) (by rw [← hR, sumL_m (iT := (some kt)) hst (by omega) (by omega)]; rfl) hW15
                · exact absurd c56 (nI_ne1 (by omega))
theorem Rr_sum {K : xG} {h b tx n : Nat} {G0 G : xHp} {tp : Nat → Nat} {s : xPS} (hW : RRd G0 G b tx n tp s) : xCall K mX9_readSum 6 0 0 [.ref b] h G (rrQ G0 h b tx n tp none (sumL tp n 400 none none s)) := by
  refine x_entry (by decide) (ls := [(0, .ref b)]) rfl (Nat.le_of_ble_eq_true rfl) ?_
  refine x_iconst dX9_readSum_0 ki_m1 ?_
  refine x_istore_n (ls' := [(1, .int (-1)), (0, .ref b)]) dX9_readSum_1 (by decide) rfl ?_
  refine x_iconst dX9_readSum_2 ki_m1 ?_
  refine x_istore_n (ls' := [(2, .int (-1)), (1, .int (-1)), (0, .ref b)]) dX9_readSum_3 (by decide) rfl ?_
  refine x_iconst dX9_readSum_4 ki_0 ?_
  refine x_istore_n (ls' := [(3, .int (nI 0)), (2, .int (-1)), (1, .int (-1)), (0, .ref b)]) dX9_readSum_5 (by decide) rfl ?_
  refine x_leq (ls' := [(3, .int (nI 0)), (2, .int (chI none)), (1, .int (chI none)), (0, .ref b)]) rfl ?_
  exact Rr_sum_loop 400 0 none none s G (by omega) (fun j q => by simp at q) (fun j q => by simp at q) rfl hW
