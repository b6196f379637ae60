theorem Rr_cmp {K : xG} {h b tx n : Nat} {G0 : xHp} {tp : Nat → Nat} {D d : Nat} {s : xPS} {bn : Bool} {G1 : xHp} (hD : 7 ≤ D) (hW1 : RRd G0 G1 b tx n tp s) : xV K mX9_readFact D 0 0 h G1 26 [(2, .int (bI bn)), (0, .ref b), (1, .int (nI d))] [] (rrQ G0 h b tx n tp none (cmpP tp n s)) := by
  have htx := hW1.2.2.2.2.2.2.2
  obtain ⟨u21, u31, u41, u51, u61, hc1⟩ := hW1.1.cell
  refine x_aload_n dX9_readFact_26 1 rfl ?_
  refine x_cVe (N := mX9_readSum) (d' := 6) (mc := 0) (ms := 0) (cb := 0) (sb := 0) (As := []) (st := []) dX9_readFact_27 mX9_readSum_v lX9_69 rfl rfl (hW1.2.1) rfl (by omega) (Nat.le_of_ble_eq_true rfl) (Rr_sum hW1) rfl (sf := fun G2 => []) (fun _ => rfl) (fun G2 hW2 => ?_)
  obtain ⟨u22, u32, u42, u52, u62, hc2⟩ := hW2.1.cell
  refine x_aload_n dX9_readFact_30 1 rfl ?_
  refine x_cV (N := mX9_stepAtHand) (d' := 0) (mc := 0) (ms := 0) (cb := 0) (sb := 0) (As := []) (st := []) dX9_readFact_31 mX9_stepAtHand_v lX9_90 rfl rfl (hW2.2.1) rfl (by omega) (Nat.le_of_ble_eq_true rfl) (Rr_step hW2) rfl (st1 := [.int (chI (stpP tp n (sumL tp n 400 none none s)))]) rfl ?_
  refine x_istore_n (ls' := [(3, .int (chI (stpP tp n (sumL tp n 400 none none s)))), (2, .int (bI bn)), (0, .ref b), (1, .int (nI d))]) dX9_readFact_34 (by decide) rfl ?_
  rcases hst : stpP tp n (sumL tp n 400 none none s) with _ | c
  · refine x_leq (ls' := [(3, .int (-1)), (2, .int (bI bn)), (0, .ref b), (1, .int (nI d))]) rfl ?_
    refine x_iload_n dX9_readFact_35 0 rfl ?_
    refine x_bipush dX9_readFact_36 kb_7 ?_
    refine x_icmp_lt (x := (-1)) (y := nI 7) (tgt := 47) dX9_readFact_38 (by decide) (fun c38 => ?_) (fun c38 => ?_)
    · refine x_aload_n dX9_readFact_47 2 rfl ?_
      refine x_pc (pc' := 48) rfl ?_
      refine x_get dX9_readFact_48 fX9_20 (hW2.2.1) rfl ?_
      refine x_iconst dX9_readFact_51 ki_0 ?_
      refine x_cVe (N := mX7_fail) (d' := 0) (mc := 0) (ms := 0) (cb := 0) (sb := 0) (As := [.int (nI 0)]) (st := []) dX9_readFact_52 mX7_fail_v lX9_66 rfl rfl (hc2) rfl (by omega) (Nat.le_of_ble_eq_true rfl) (hW2.fl (by decide)) rfl (sf := fun G3 => []) (fun _ => rfl) (fun G3 hW3 => ?_)
      obtain ⟨u23, u33, u43, u53, u63, hc3⟩ := hW3.1.cell
      refine x_goto (tgt := 105) dX9_readFact_55 (by decide) ?_
      refine x_goto (tgt := 197) dX9_readFact_105 (by decide) ?_
      exact x_vret dX9_readFact_197 rfl (xEx_i G3 (by unfold cmpP; rw [hst]; exact hW3) rfl rfl rfl)
    · exact absurd c38 (by decide)
  · refine x_leq (ls' := [(3, .int (nI c)), (2, .int (bI bn)), (0, .ref b), (1, .int (nI d))]) rfl ?_
    have hcl := stp_lt hst
    obtain ⟨hz0, hz3, hz1, hz2⟩ := hcl
    have hcn := hW2.2.2.2.2.2.1
    refine x_iload_n dX9_readFact_35 0 rfl ?_
    refine x_bipush dX9_readFact_36 kb_7 ?_
    refine x_icmpN_lt (tgt := 47) dX9_readFact_38 (by decide) (by omega) (by omega) (fun c38 => ?_) (fun c38 => ?_)
    · refine x_aload_n dX9_readFact_47 2 rfl ?_
      refine x_pc (pc' := 48) rfl ?_
      refine x_get dX9_readFact_48 fX9_20 (hW2.2.1) rfl ?_
      refine x_iconst dX9_readFact_51 ki_0 ?_
      refine x_cVe (N := mX7_fail) (d' := 0) (mc := 0) (ms := 0) (cb := 0) (sb := 0) (As := [.int (nI 0)]) (st := []) dX9_readFact_52 mX7_fail_v lX9_66 rfl rfl (hc2) rfl (by omega) (Nat.le_of_ble_eq_true rfl) (hW2.fl (by decide)) rfl (sf := fun G4 => []) (fun _ => rfl) (fun G4 hW4 => ?_)
      obtain ⟨u24, u34, u44, u54, u64, hc4⟩ := hW4.1.cell
      refine x_goto (tgt := 105) dX9_readFact_55 (by decide) ?_
      refine x_goto (tgt := 197) dX9_readFact_105 (by decide) ?_
      exact x_vret dX9_readFact_197 rfl (xEx_i G4 (by unfold cmpP; rw [hst]; simp only; rw [if_pos c38]; exact hW4) rfl rfl rfl)
    · refine x_iload_n dX9_readFact_41 0 rfl ?_
      refine x_pc (pc' := 42) rfl ?_
      refine x_bipush dX9_readFact_42 kb_11 ?_
      refine x_icmpN_le (tgt := 58) dX9_readFact_44 (by decide) (by omega) (by omega) (fun c44 => ?_) (fun c44 => ?_)
      · refine x_aload_n dX9_readFact_58 2 rfl ?_
        refine x_get dX9_readFact_59 fX9_28 (hW2.2.1) rfl ?_
        refine x_bipush dX9_readFact_62 kb_60 ?_
        refine x_icmpN_lt (tgt := 78) dX9_readFact_64 (by decide) (by omega) (by omega) (fun c64 => ?_) (fun c64 => ?_)
        · refine x_aload_n dX9_readFact_78 2 rfl ?_
          refine x_dup dX9_readFact_79 rfl ?_
          refine x_get dX9_readFact_80 fX9_28 (hW2.2.1) rfl ?_
          refine x_iconst dX9_readFact_83 ki_1 ?_
          refine x_pc (pc' := 84) rfl ?_
          refine x_iaddN dX9_readFact_84 ?_
          refine x_put (fs' := [.ref (b + 2), .ref (b + 1), .int (nI ((sumL tp n 400 none none s).2.2.2.length)), .int (nI (((sumL tp n 400 none none s).2.2.1) + 1))]) dX9_readFact_85 fX9_28 (hW2.2.1) (Nat.le_of_ble_eq_true rfl) rfl rfl rfl ?_
          have hW5 := hW2.cnt c64
          obtain ⟨u25, u35, u45, u55, u65, hc5⟩ := hW5.1.cell
          refine x_aload_n dX9_readFact_88 2 rfl ?_
          refine x_get dX9_readFact_89 fX9_20 (hW5.2.1) rfl ?_
          refine x_cVe (N := mX7_next) (d' := 0) (mc := 0) (ms := 0) (cb := 0) (sb := 0) (As := []) (st := []) dX9_readFact_92 mX7_next_v lX9_42 rfl rfl (hc5) rfl (by omega) (Nat.le_of_ble_eq_true rfl) (hW5.nx (hz0)) rfl (sf := fun G6 => []) (fun _ => rfl) (fun G6 hW6 => ?_)
          obtain ⟨u26, u36, u46, u56, u66, hc6⟩ := hW6.1.cell
          refine x_aload_n dX9_readFact_95 2 rfl ?_
          refine x_cVe (N := mX9_readSum) (d' := 6) (mc := 0) (ms := 0) (cb := 0) (sb := 0) (As := []) (st := []) dX9_readFact_96 mX9_readSum_v lX9_69 rfl rfl (hW6.2.1) rfl (by omega) (Nat.le_of_ble_eq_true rfl) (Rr_sum hW6) rfl (sf := fun G7 => []) (fun _ => rfl) (fun G7 hW7 => ?_)
          obtain ⟨u27, u37, u47, u57, u67, hc7⟩ := hW7.1.cell
          refine x_aload_n dX9_readFact_99 2 rfl ?_
          refine x_iload_n dX9_readFact_100 0 rfl ?_
          refine x_iconst dX9_readFact_101 ki_0 ?_
          refine x_pc (pc' := 102) rfl ?_
          refine x_cVe (N := mX9_putStep) (d' := 0) (mc := 0) (ms := 0) (cb := 0) (sb := 0) (As := [.int (nI c), .int (nI 0)]) (st := []) dX9_readFact_102 mX9_putStep_v lX9_77 rfl rfl (hW7.2.1) rfl (by omega) (Nat.le_of_ble_eq_true rfl) (Rr_put hW7 (by omega) (by decide)) rfl (sf := fun G8 => []) (fun _ => rfl) (fun G8 hW8 => ?_)
          obtain ⟨u28, u38, u48, u58, u68, hc8⟩ := hW8.1.cell
          refine x_goto (tgt := 197) dX9_readFact_105 (by decide) ?_
          exact x_vret dX9_readFact_197 rfl (xEx_i G8 (by unfold cmpP; rw [hst]; simp only; rw [if_neg (by omega), if_neg (by omega)]; exact hW8) rfl rfl rfl)
        · refine x_aload_n dX9_readFact_67 2 rfl ?_
          refine x_get dX9_readFact_68 fX9_20 (hW2.2.1) rfl ?_
          refine x_iconst dX9_readFact_71 ki_3 ?_
          refine x_cVe (N := mX7_fail) (d' := 0) (mc := 0) (ms := 0) (cb := 0) (sb := 0) (As := [.int (nI 3)]) (st := []) dX9_readFact_72 mX7_fail_v lX9_66 rfl rfl (hc2) rfl (by omega) (Nat.le_of_ble_eq_true rfl) (hW2.fl (by decide)) rfl (sf := fun G9 => []) (fun _ => rfl) (fun G9 hW9 => ?_)
          obtain ⟨u29, u39, u49, u59, u69, hc9⟩ := hW9.1.cell
          refine x_pc (pc' := 75) rfl ?_
          refine x_goto (tgt := 105) dX9_readFact_75 (by decide) ?_
          refine x_goto (tgt := 197) dX9_readFact_105 (by decide) ?_
          exact x_vret dX9_readFact_197 rfl (xEx_i G9 (by unfold cmpP; rw [hst]; simp only; rw [if_neg (by omega), if_pos c64]; exact hW9) rfl rfl rfl)
      · exact absurd c44 (by omega)
theorem Rr_fact {K : xG} {h b tx n : Nat} {G0 : xHp} {tp : Nat → Nat} {k : Nat} (ihf : (∀ (d : Nat) (s : xPS) (G : xHp), d ≤ 10 → nd n k 1 s → RRd G0 G b tx n tp s → xCall K mX9_readFact (7 + 2 * (10 - d)) 0 0 [.ref b, .int (nI d)] h G (rrQ G0 h b tx n tp none (rdP tp n k 0 d s)))) (iht : (∀ (d : Nat) (s : xPS) (G : xHp), d ≤ 10 → nd n k 2 s → (s.1 = 0 → 1 ≤ s.2.1) → RRd G0 G b tx n tp s → xCall K mX9_readTest (8 + 2 * (10 - d)) 0 0 [.ref b, .int (nI d)] h G (rrQ G0 h b tx n tp none (rdP tp n k 1 d s)))) : ∀ (d : Nat) (s : xPS) (G : xHp), d ≤ 10 → nd n (k + 1) 1 s → RRd G0 G b tx n tp s → xCall K mX9_readFact (7 + 2 * (10 - d)) 0 0 [.ref b, .int (nI d)] h G (rrQ G0 h b tx n tp none (rdP tp n (k + 1) 0 d s)) := by
  intro d s G hd hnd hW
  refine x_entry (by decide) (ls := [(0, .ref b), (1, .int (nI d))]) rfl (Nat.le_of_ble_eq_true rfl) ?_
  have htx := hW.2.2.2.2.2.2.2
  obtain ⟨hp1, hp2⟩ := hW.p
  obtain ⟨hn1, hn2⟩ := hnd
  obtain ⟨u2, u3, u4, u5, u6, hc⟩ := hW.1.cell
  refine x_aload_n dX9_readFact_0 0 rfl ?_
  refine x_get dX9_readFact_1 fX9_20 (hW.2.1) rfl ?_
  refine x_ldcS 5 (by decide) rfl rfl dX9_readFact_4 ?_
  refine x_cV (N := mX7_isWord) (d' := 5) (mc := 0) (ms := 0) (cb := 0) (sb := 0) (As := [.ref (K.2.2.2.2.1 5)]) (st := []) dX9_readFact_6 mX7_isWord_v lX9_62 rfl rfl (hc) rfl (by omega) (Nat.le_of_ble_eq_true rfl) (Rd_isWord hW.1 (by omega) (by decide)) rfl (st1 := [.int (bI (isW tp n s 5))]) rfl ?_
  refine x_istore_n (ls' := [(2, .int (bI (isW tp n s 5))), (0, .ref b), (1, .int (nI d))]) dX9_readFact_9 (by decide) rfl ?_
  refine x_iload_n dX9_readFact_10 0 rfl ?_
  refine x_ifB_ne (tgt := 108) dX9_readFact_11 (by decide) (fun c11 => ?_) (fun c11 => ?_)
  · refine x_iload_n dX9_readFact_108 2 rfl ?_
    refine x_bipush dX9_readFact_109 kb_10 ?_
    refine x_pc (pc' := 111) rfl ?_
    refine x_icmpN_lt (tgt := 125) dX9_readFact_111 (by decide) (by omega) (by omega) (fun c111 => ?_) (fun c111 => ?_)
    · refine x_iload_n dX9_readFact_125 0 rfl ?_
      refine x_ifB_eq (tgt := 153) dX9_readFact_126 (by decide) (fun c126 => ?_) (fun c126 => ?_)
      · exact absurd (c11.symm.trans c126) (by decide)
      · refine x_aload_n dX9_readFact_129 1 rfl ?_
        refine x_get dX9_readFact_130 fX9_20 (hW.2.1) rfl ?_
        refine x_cVe (N := mX7_next) (d' := 0) (mc := 0) (ms := 0) (cb := 0) (sb := 0) (As := []) (st := []) dX9_readFact_133 mX7_next_v lX9_42 rfl rfl (hc) rfl (by omega) (Nat.le_of_ble_eq_true rfl) (hW.nx ((isW_s c11).1)) rfl (sf := fun G1 => []) (fun _ => rfl) (fun G1 hW1 => ?_)
        obtain ⟨u21, u31, u41, u51, u61, hc1⟩ := hW1.1.cell
        have hs0 := (isW_s c11).1
        have hg := next_gt (tp := tp) hp1 (by rw [(isW_s c11).2]; decide)
        have hn3 := hn2 hs0
        refine x_aload_n dX9_readFact_136 1 rfl ?_
        refine x_iload_n dX9_readFact_137 2 rfl ?_
        refine x_iconst dX9_readFact_138 ki_1 ?_
        refine x_iaddN dX9_readFact_139 ?_
        refine x_pc (pc' := 140) rfl ?_
        refine x_cVe (N := mX9_readFact) (d' := (7 + 2 * (10 - (d + 1)))) (mc := 0) (ms := 0) (cb := 0) (sb := 0) (As := [.int (nI (d + 1))]) (st := []) dX9_readFact_140 mX9_readFact_v lX9_81 rfl rfl (hW1.2.1) rfl (by omega) (Nat.le_of_ble_eq_true rfl) (ihf (d + 1) _ _ (by omega) ⟨by omega, fun _ => by omega⟩ hW1) rfl (sf := fun G2 => []) (fun _ => rfl) (fun G2 hW2 => ?_)
        obtain ⟨u22, u32, u42, u52, u62, hc2⟩ := hW2.1.cell
        refine x_aload_n dX9_readFact_143 1 rfl ?_
        refine x_bipush dX9_readFact_144 kb_14 ?_
        refine x_iconst dX9_readFact_146 ki_0 ?_
        refine x_cVe (N := mX9_putStep) (d' := 0) (mc := 0) (ms := 0) (cb := 0) (sb := 0) (As := [.int (nI 14), .int (nI 0)]) (st := []) dX9_readFact_147 mX9_putStep_v lX9_77 rfl rfl (hW2.2.1) rfl (by omega) (Nat.le_of_ble_eq_true rfl) (Rr_put hW2 (by omega) (by decide)) rfl (sf := fun G3 => []) (fun _ => rfl) (fun G3 hW3 => ?_)
        obtain ⟨u23, u33, u43, u53, u63, hc3⟩ := hW3.1.cell
        refine x_goto (tgt := 197) dX9_readFact_150 (by decide) ?_
        exact x_vret dX9_readFact_197 rfl (xEx_i G3 (by rw [rd_not c11 c111]; exact hW3) rfl rfl rfl)
    · refine x_aload_n dX9_readFact_114 1 rfl ?_
      refine x_get dX9_readFact_115 fX9_20 (hW.2.1) rfl ?_
      refine x_iconst dX9_readFact_118 ki_2 ?_
      refine x_cVe (N := mX7_fail) (d' := 0) (mc := 0) (ms := 0) (cb := 0) (sb := 0) (As := [.int (nI 2)]) (st := []) dX9_readFact_119 mX7_fail_v lX9_66 rfl rfl (hc) rfl (by omega) (Nat.le_of_ble_eq_true rfl) (hW.fl (by decide)) rfl (sf := fun G4 => []) (fun _ => rfl) (fun G4 hW4 => ?_)
      obtain ⟨u24, u34, u44, u54, u64, hc4⟩ := hW4.1.cell
      refine x_goto (tgt := 197) dX9_readFact_122 (by decide) ?_
      exact x_vret dX9_readFact_197 rfl (xEx_i G4 (by rw [rd_deep (Or.inl c11) c111]; exact hW4) rfl rfl rfl)
  · refine x_aload_n dX9_readFact_14 1 rfl ?_
    refine x_get dX9_readFact_15 fX9_20 (hW.2.1) rfl ?_
    refine x_pc (pc' := 18) rfl ?_
    refine x_bipush dX9_readFact_18 kb_91 ?_
    refine x_cV (N := mX7_isSign) (d' := 0) (mc := 0) (ms := 0) (cb := 0) (sb := 0) (As := [.int (nI 91)]) (st := []) dX9_readFact_20 mX7_isSign_v lX9_38 rfl rfl (hc) rfl (by omega) (Nat.le_of_ble_eq_true rfl) (Rd_isSign hW.1 (by omega) (by decide)) rfl (st1 := [.int (bI (isS tp n s.1 s.2.1 91))]) rfl ?_
    refine x_ifB_ne (tgt := 108) dX9_readFact_23 (by decide) (fun c23 => ?_) (fun c23 => ?_)
    · refine x_iload_n dX9_readFact_108 2 rfl ?_
      refine x_bipush dX9_readFact_109 kb_10 ?_
      refine x_icmpN_lt (tgt := 125) dX9_readFact_111 (by decide) (by omega) (by omega) (fun c111 => ?_) (fun c111 => ?_)
      · refine x_iload_n dX9_readFact_125 0 rfl ?_
        refine x_ifB_eq (tgt := 153) dX9_readFact_126 (by decide) (fun c126 => ?_) (fun c126 => ?_)
        · refine x_aload_n dX9_readFact_153 1 rfl ?_
          refine x_get dX9_readFact_154 fX9_20 (hW.2.1) rfl ?_
          refine x_pc (pc' := 157) rfl ?_
          refine x_cVe (N := mX7_next) (d' := 0) (mc := 0) (ms := 0) (cb := 0) (sb := 0) (As := []) (st := []) dX9_readFact_157 mX7_next_v lX9_42 rfl rfl (hc) rfl (by omega) (Nat.le_of_ble_eq_true rfl) (hW.nx ((of_decide_eq_true c23).1)) rfl (sf := fun G5 => []) (fun _ => rfl) (fun G5 hW5 => ?_)
          obtain ⟨u25, u35, u45, u55, u65, hc5⟩ := hW5.1.cell
          have hs0 := (of_decide_eq_true c23).1
          have hg := next_gt (tp := tp) hp1 (by rw [(of_decide_eq_true c23).2.1]; decide)
          have hn3 := hn2 hs0
          refine x_aload_n dX9_readFact_160 1 rfl ?_
          refine x_iload_n dX9_readFact_161 2 rfl ?_
          refine x_iconst dX9_readFact_162 ki_1 ?_
          refine x_iaddN dX9_readFact_163 ?_
          refine x_cVe (N := mX9_readTest) (d' := (8 + 2 * (10 - (d + 1)))) (mc := 0) (ms := 0) (cb := 0) (sb := 0) (As := [.int (nI (d + 1))]) (st := []) dX9_readFact_164 mX9_readTest_v lX9_74 rfl rfl (hW5.2.1) rfl (by omega) (Nat.le_of_ble_eq_true rfl) (iht (d + 1) _ _ (by omega) ⟨by omega, fun _ => by omega⟩ (fun _ => by omega) hW5) rfl (sf := fun G6 => []) (fun _ => rfl) (fun G6 hW6 => ?_)
          obtain ⟨u26, u36, u46, u56, u66, hc6⟩ := hW6.1.cell
          refine x_aload_n dX9_readFact_167 1 rfl ?_
          refine x_get dX9_readFact_168 fX9_20 (hW6.2.1) rfl ?_
          refine x_bipush dX9_readFact_171 kb_93 ?_
          refine x_cV (N := mX7_isSign) (d' := 0) (mc := 0) (ms := 0) (cb := 0) (sb := 0) (As := [.int (nI 93)]) (st := []) dX9_readFact_173 mX7_isSign_v lX9_38 rfl rfl (hc6) rfl (by omega) (Nat.le_of_ble_eq_true rfl) (Rd_isSign hW6.1 (by omega) (by decide)) rfl (st1 := [.int (bI (isS tp n (rdP tp n k 1 (d + 1) (nextP tp n s)).1 (rdP tp n k 1 (d + 1) (nextP tp n s)).2.1 93))]) rfl ?_
          refine x_pc (pc' := 176) rfl ?_
          refine x_ifB_eq (tgt := 189) dX9_readFact_176 (by decide) (fun c176 => ?_) (fun c176 => ?_)
          · refine x_aload_n dX9_readFact_189 1 rfl ?_
            refine x_get dX9_readFact_190 fX9_20 (hW6.2.1) rfl ?_
            refine x_iconst dX9_readFact_193 ki_0 ?_
            refine x_cVe (N := mX7_fail) (d' := 0) (mc := 0) (ms := 0) (cb := 0) (sb := 0) (As := [.int (nI 0)]) (st := []) dX9_readFact_194 mX7_fail_v lX9_66 rfl rfl (hc6) rfl (by omega) (Nat.le_of_ble_eq_true rfl) (hW6.fl (by decide)) rfl (sf := fun G7 => []) (fun _ => rfl) (fun G7 hW7 => ?_)
            obtain ⟨u27, u37, u47, u57, u67, hc7⟩ := hW7.1.cell
            exact x_vret dX9_readFact_197 rfl (xEx_i G7 (by rw [rd_br c11 c23 c111]; unfold clsP; rw [if_neg (by rw [c176]; decide)]; exact hW7) rfl rfl rfl)
          · refine x_aload_n dX9_readFact_179 1 rfl ?_
            refine x_get dX9_readFact_180 fX9_20 (hW6.2.1) rfl ?_
            refine x_cVe (N := mX7_next) (d' := 0) (mc := 0) (ms := 0) (cb := 0) (sb := 0) (As := []) (st := []) dX9_readFact_183 mX7_next_v lX9_42 rfl rfl (hc6) rfl (by omega) (Nat.le_of_ble_eq_true rfl) (hW6.nx ((of_decide_eq_true c176).1)) rfl (sf := fun G8 => []) (fun _ => rfl) (fun G8 hW8 => ?_)
            obtain ⟨u28, u38, u48, u58, u68, hc8⟩ := hW8.1.cell
            refine x_goto (tgt := 197) dX9_readFact_186 (by decide) ?_
            exact x_vret dX9_readFact_197 rfl (xEx_i G8 (by rw [rd_br c11 c23 c111]; unfold clsP; rw [if_pos c176]; exact hW8) rfl rfl rfl)
        · exact absurd (c11.symm.trans c126) (by decide)
      · refine x_aload_n dX9_readFact_114 1 rfl ?_
        refine x_get dX9_readFact_115 fX9_20 (hW.2.1) rfl ?_
        refine x_iconst dX9_readFact_118 ki_2 ?_
        refine x_cVe (N := mX7_fail) (d' := 0) (mc := 0) (ms := 0) (cb := 0) (sb := 0) (As := [.int (nI 2)]) (st := []) dX9_readFact_119 mX7_fail_v lX9_66 rfl rfl (hc) rfl (by omega) (Nat.le_of_ble_eq_true rfl) (hW.fl (by decide)) rfl (sf := fun G9 => []) (fun _ => rfl) (fun G9 hW9 => ?_)
        obtain ⟨u29, u39, u49, u59, u69, hc9⟩ := hW9.1.cell
        refine x_pc (pc' := 122) rfl ?_
        refine x_goto (tgt := 197) dX9_readFact_122 (by decide) ?_
        exact x_vret dX9_readFact_197 rfl (xEx_i G9 (by rw [rd_deep (Or.inr c23) c111]; exact hW9) rfl rfl rfl)
    · rw [rd_cmp c11 c23]
      exact Rr_cmp (by omega) hW
theorem Rr_and {K : xG} {h b tx n : Nat} {G0 : xHp} {tp : Nat → Nat} {K0 d v : Nat} {R : xPS} {Q : xPost} (hd : d ≤ 10) (ihf : ∀ j, j < K0 → (∀ (d : Nat) (s : xPS) (G : xHp), d ≤ 10 → nd n j 1 s → RRd G0 G b tx n tp s → xCall K mX9_readFact (7 + 2 * (10 - d)) 0 0 [.ref b, .int (nI d)] h G (rrQ G0 h b tx n tp none (rdP tp n j 0 d s)))) (next : ∀ G1, RRd G0 G1 b tx n tp R → xV K mX9_readTest (8 + 2 * (10 - d)) 0 0 h G1 60 [(2, .int (nI v)), (0, .ref b), (1, .int (nI d))] [] Q) : ∀ (j w : Nat) (s : xPS) (G1 : xHp), j ≤ K0 → w < 400 → (s.1 = 0 → w + 1 ≤ s.2.1) → nd n j 1 s → rdP tp n j 3 d s = R → RRd G0 G1 b tx n tp s → xV K mX9_readTest (8 + 2 * (10 - d)) 0 0 h G1 16 [(3, .int (nI w)), (2, .int (nI v)), (0, .ref b), (1, .int (nI d))] [] (Q) := by
  intro j
  induction j with
  | zero =>
    intro w s G1 hj hw hwp hnd hR hW1
    exact absurd hnd.1 (by omega)
  | succ j ih =>
    intro w s G1 hj hw hwp hnd hR hW1
    have htx := hW1.2.2.2.2.2.2.2
    obtain ⟨hp1, hp2⟩ := hW1.p
    obtain ⟨hn1, hn2⟩ := hnd
    obtain ⟨u21, u31, u41, u51, u61, hc1⟩ := hW1.1.cell
    refine x_iload_n dX9_readTest_16 0 rfl ?_
    refine x_sipush dX9_readTest_17 ks_400 ?_
    refine x_icmpN_ge (tgt := 60) dX9_readTest_20 (by decide) (by omega) (by omega) (fun c20 => ?_) (fun c20 => ?_)
    · exact absurd c20 (by omega)
    · refine x_aload_n dX9_readTest_23 2 rfl ?_
      refine x_get dX9_readTest_24 fX9_20 (hW1.2.1) rfl ?_
      refine x_ldcS 3 (by decide) rfl rfl dX9_readTest_27 ?_
      refine x_cV (N := mX7_isWord) (d' := 5) (mc := 0) (ms := 0) (cb := 0) (sb := 0) (As := [.ref (K.2.2.2.2.1 3)]) (st := []) dX9_readTest_29 mX7_isWord_v lX9_62 rfl rfl (hc1) rfl (by omega) (Nat.le_of_ble_eq_true rfl) (Rd_isWord hW1.1 (by omega) (by decide)) rfl (st1 := [.int (bI (isW tp n s 3))]) rfl ?_
      refine x_ifB_eq (tgt := 60) dX9_readTest_32 (by decide) (fun c32 => ?_) (fun c32 => ?_)
      · refine x_perm (ls' := [(2, .int (nI v)), (0, .ref b), (1, .int (nI d))]) [1, 2, 3] rfl ?_
        exact next G1 (by rw [← hR, rd_and0 c32]; exact hW1)
      · refine x_aload_n dX9_readTest_35 2 rfl ?_
        refine x_pc (pc' := 36) rfl ?_
        refine x_get dX9_readTest_36 fX9_20 (hW1.2.1) rfl ?_
        refine x_cVe (N := mX7_next) (d' := 0) (mc := 0) (ms := 0) (cb := 0) (sb := 0) (As := []) (st := []) dX9_readTest_39 mX7_next_v lX9_42 rfl rfl (hc1) rfl (by omega) (Nat.le_of_ble_eq_true rfl) (hW1.nx ((isW_s c32).1)) rfl (sf := fun G2 => []) (fun _ => rfl) (fun G2 hW2 => ?_)
        obtain ⟨u22, u32, u42, u52, u62, hc2⟩ := hW2.1.cell
        have hs0 := (isW_s c32).1
        have hg := next_gt (tp := tp) hp1 (by rw [(isW_s c32).2]; decide)
        have hn3 := hn2 hs0
        have hw3 := hwp hs0
        refine x_aload_n dX9_readTest_42 2 rfl ?_
        refine x_iload_n dX9_readTest_43 3 rfl ?_
        refine x_cVe (N := mX9_readFact) (d' := (7 + 2 * (10 - d))) (mc := 0) (ms := 0) (cb := 0) (sb := 0) (As := [.int (nI d)]) (st := []) dX9_readTest_44 mX9_readFact_v lX9_81 rfl rfl (hW2.2.1) rfl (by omega) (Nat.le_of_ble_eq_true rfl) (ihf j (by omega) d _ _ hd ⟨by omega, fun _ => by omega⟩ hW2) rfl (sf := fun G3 => []) (fun _ => rfl) (fun G3 hW3 => ?_)
        obtain ⟨u23, u33, u43, u53, u63, hc3⟩ := hW3.1.cell
        refine x_aload_n dX9_readTest_47 2 rfl ?_
        refine x_bipush dX9_readTest_48 kb_12 ?_
        refine x_iconst dX9_readTest_50 ki_0 ?_
        refine x_cVe (N := mX9_putStep) (d' := 0) (mc := 0) (ms := 0) (cb := 0) (sb := 0) (As := [.int (nI 12), .int (nI 0)]) (st := []) dX9_readTest_51 mX9_putStep_v lX9_77 rfl rfl (hW3.2.1) rfl (by omega) (Nat.le_of_ble_eq_true rfl) (Rr_put hW3 (by omega) (by decide)) rfl (sf := fun G4 => []) (fun _ => rfl) (fun G4 hW4 => ?_)
        obtain ⟨u24, u34, u44, u54, u64, hc4⟩ := hW4.1.cell
        refine x_iinc (v := nI (w + 1)) (ls' := [(3, .int (nI (w + 1))), (2, .int (nI v)), (0, .ref b), (1, .int (nI d))]) dX9_readTest_54 0 rfl (nIs _) (by decide) rfl ?_
        refine x_pc (pc' := 57) rfl ?_
        refine x_goto (tgt := 16) dX9_readTest_57 (by decide) ?_
        refine ih (w + 1) _ G4 (by omega) (by omega) (fun q => ?_) ⟨by omega, fun q => ?_⟩ (by rw [← hR, rd_and c32]) hW4
        · have := (Mo.rd.tr Mo.put : Mo n (nextP tp n s) (putP (rdP tp n j 0 d (nextP tp n s)) 12 0)) q
          omega
        · have := (Mo.rd.tr Mo.put : Mo n (nextP tp n s) (putP (rdP tp n j 0 d (nextP tp n s)) 12 0)) q
          omega
theorem Rr_or {K : xG} {h b tx n : Nat} {G0 : xHp} {tp : Nat → Nat} {K0 d : Nat} {R : xPS} (hd : d ≤ 10) (ihf : ∀ j, j < K0 → (∀ (d : Nat) (s : xPS) (G : xHp), d ≤ 10 → nd n j 1 s → RRd G0 G b tx n tp s → xCall K mX9_readFact (7 + 2 * (10 - d)) 0 0 [.ref b, .int (nI d)] h G (rrQ G0 h b tx n tp none (rdP tp n j 0 d s)))) : ∀ (j v : Nat) (s : xPS) (G1 : xHp), j ≤ K0 → v < 400 → (s.1 = 0 → v + 1 ≤ s.2.1) → nd n j 2 s → rdP tp n j (if v = 0 then 1 else 2) d s = R → RRd G0 G1 b tx n tp s → xV K mX9_readTest (8 + 2 * (10 - d)) 0 0 h G1 2 [(2, .int (nI v)), (0, .ref b), (1, .int (nI d))] [] (rrQ G0 h b tx n tp none R) := by
  intro j
  induction j with
  | zero =>
    intro v s G1 hj hv hvp hnd hR hW1
    exact absurd hnd.1 (by omega)
  | succ j ih =>
    intro v s G1 hj hv hvp hnd hR hW1
    have htx := hW1.2.2.2.2.2.2.2
    obtain ⟨hp1, hp2⟩ := hW1.p
    obtain ⟨hn1, hn2⟩ := hnd
    rw [rd_test] at hR
    refine x_iload_n dX9_readTest_2 0 rfl ?_
    refine x_sipush dX9_readTest_3 ks_400 ?_
    refine x_icmpN_ge (tgt := 97) dX9_readTest_6 (by decide) (by omega) (by omega) (fun c6 => ?_) (fun c6 => ?_)
    · exact absurd c6 (by omega)
    · refine x_aload_n dX9_readTest_9 1 rfl ?_
      refine x_iload_n dX9_readTest_10 2 rfl ?_
      refine x_cVe (N := mX9_readFact) (d' := (7 + 2 * (10 - d))) (mc := 0) (ms := 0) (cb := 0) (sb := 0) (As := [.int (nI d)]) (st := []) dX9_readTest_11 mX9_readFact_v lX9_81 rfl rfl (hW1.2.1) rfl (by omega) (Nat.le_of_ble_eq_true rfl) (ihf j (by omega) d _ _ hd ⟨by omega, fun q => by have := hn2 q; omega⟩ hW1) rfl (sf := fun G2 => []) (fun _ => rfl) (fun G2 hW2 => ?_)
      refine x_iconst dX9_readTest_14 ki_0 ?_
      refine x_istore_n (ls' := [(3, .int (nI 0)), (2, .int (nI v)), (0, .ref b), (1, .int (nI d))]) dX9_readTest_15 (by decide) rfl ?_
      refine Rr_and (R := (rdP tp n j 3 d (rdP tp n j 0 d s))) hd ihf (fun G3 hW3 => ?_) j 0 _ G2 (by omega) (by omega) (fun q => ?_) ⟨by omega, fun q => ?_⟩ rfl hW2
      · obtain ⟨u23, u33, u43, u53, u63, hc3⟩ := hW3.1.cell
        refine x_iload_n dX9_readTest_60 0 rfl ?_
        refine x_ifN_le (tgt := 71) dX9_readTest_61 (by decide) (by omega) (fun c61 => ?_) (fun c61 => ?_)
        · have hW9 : RRd G0 G3 b tx n tp (orP tp n j v d s) := by unfold orP; rw [if_pos c61]; exact hW3
          obtain ⟨u29, u39, u49, u59, u69, hc9⟩ := hW9.1.cell
          refine x_aload_n dX9_readTest_71 1 rfl ?_
          refine x_get dX9_readTest_72 fX9_20 (hW9.2.1) rfl ?_
          refine x_ldcS 4 (by decide) rfl rfl dX9_readTest_75 ?_
          refine x_cV (N := mX7_isWord) (d' := 5) (mc := 0) (ms := 0) (cb := 0) (sb := 0) (As := [.ref (K.2.2.2.2.1 4)]) (st := []) dX9_readTest_77 mX7_isWord_v lX9_62 rfl rfl (hc9) rfl (by omega) (Nat.le_of_ble_eq_true rfl) (Rd_isWord hW9.1 (by omega) (by decide)) rfl (st1 := [.int (bI (isW tp n (orP tp n j v d s) 4))]) rfl ?_
          refine x_ifB_ne (tgt := 84) dX9_readTest_80 (by decide) (fun c80 => ?_) (fun c80 => ?_)
          · refine x_aload_n dX9_readTest_84 1 rfl ?_
            refine x_get dX9_readTest_85 fX9_20 (hW9.2.1) rfl ?_
            refine x_pc (pc' := 88) rfl ?_
            refine x_cVe (N := mX7_next) (d' := 0) (mc := 0) (ms := 0) (cb := 0) (sb := 0) (As := []) (st := []) dX9_readTest_88 mX7_next_v lX9_42 rfl rfl (hc9) rfl (by omega) (Nat.le_of_ble_eq_true rfl) (hW9.nx ((isW_s c80).1)) rfl (sf := fun G10 => []) (fun _ => rfl) (fun G10 hW10 => ?_)
            obtain ⟨u210, u310, u410, u510, u610, hc10⟩ := hW10.1.cell
            have hmo : Mo n s (orP tp n j v d s) := Mo.orp
            have hm := hmo (isW_s c80).1
            have hg := next_gt (tp := tp) (hm.2.2 hp1) (by rw [(isW_s c80).2]; decide)
            have hn3 := hn2 hm.1
            have hv3 := hvp hm.1
            refine x_iinc (v := nI (v + 1)) (ls' := [(2, .int (nI (v + 1))), (0, .ref b), (1, .int (nI d))]) dX9_readTest_91 0 rfl (nIs _) (by decide) rfl ?_
            refine x_goto (tgt := 2) dX9_readTest_94 (by decide) ?_
            exact ih (v + 1) _ G10 (by omega) (by omega) (fun _ => by omega) ⟨by omega, fun _ => by omega⟩ (by rw [← hR, if_pos c80, if_neg (by omega)]) hW10
          · exact x_vret dX9_readTest_83 rfl (xEx_i _ (by rw [← hR, if_neg (by rw [c80]; decide)]; exact hW9) rfl rfl rfl)
        · refine x_aload_n dX9_readTest_64 1 rfl ?_
          refine x_bipush dX9_readTest_65 kb_13 ?_
          refine x_iconst dX9_readTest_67 ki_0 ?_
          refine x_cVe (N := mX9_putStep) (d' := 0) (mc := 0) (ms := 0) (cb := 0) (sb := 0) (As := [.int (nI 13), .int (nI 0)]) (st := []) dX9_readTest_68 mX9_putStep_v lX9_77 rfl rfl (hW3.2.1) rfl (by omega) (Nat.le_of_ble_eq_true rfl) (Rr_put hW3 (by omega) (by decide)) rfl (sf := fun G11 => []) (fun _ => rfl) (fun G11 hW11 => ?_)
          obtain ⟨u211, u311, u411, u511, u611, hc11⟩ := hW11.1.cell
          have hW9 : RRd G0 G11 b tx n tp (orP tp n j v d s) := by unfold orP; rw [if_neg (by omega)]; exact hW11
          obtain ⟨u29, u39, u49, u59, u69, hc9⟩ := hW9.1.cell
          refine x_aload_n dX9_readTest_71 1 rfl ?_
          refine x_get dX9_readTest_72 fX9_20 (hW9.2.1) rfl ?_
          refine x_ldcS 4 (by decide) rfl rfl dX9_readTest_75 ?_
          refine x_pc (pc' := 77) rfl ?_
          refine x_cV (N := mX7_isWord) (d' := 5) (mc := 0) (ms := 0) (cb := 0) (sb := 0) (As := [.ref (K.2.2.2.2.1 4)]) (st := []) dX9_readTest_77 mX7_isWord_v lX9_62 rfl rfl (hc9) rfl (by omega) (Nat.le_of_ble_eq_true rfl) (Rd_isWord hW9.1 (by omega) (by decide)) rfl (st1 := [.int (bI (isW tp n (orP tp n j v d s) 4))]) rfl ?_
          refine x_ifB_ne (tgt := 84) dX9_readTest_80 (by decide) (fun c80 => ?_) (fun c80 => ?_)
          · refine x_aload_n dX9_readTest_84 1 rfl ?_
            refine x_get dX9_readTest_85 fX9_20 (hW9.2.1) rfl ?_
            refine x_cVe (N := mX7_next) (d' := 0) (mc := 0) (ms := 0) (cb := 0) (sb := 0) (As := []) (st := []) dX9_readTest_88 mX7_next_v lX9_42 rfl rfl (hc9) rfl (by omega) (Nat.le_of_ble_eq_true rfl) (hW9.nx ((isW_s c80).1)) rfl (sf := fun G10 => []) (fun _ => rfl) (fun G10 hW10 => ?_)
            obtain ⟨u210, u310, u410, u510, u610, hc10⟩ := hW10.1.cell
            have hmo : Mo n s (orP tp n j v d s) := Mo.orp
            have hm := hmo (isW_s c80).1
            have hg := next_gt (tp := tp) (hm.2.2 hp1) (by rw [(isW_s c80).2]; decide)
            have hn3 := hn2 hm.1
            have hv3 := hvp hm.1
            refine x_iinc (v := nI (v + 1)) (ls' := [(2, .int (nI (v + 1))), (0, .ref b), (1, .int (nI d))]) dX9_readTest_91 0 rfl (nIs _) (by decide) rfl ?_
            refine x_goto (tgt := 2) dX9_readTest_94 (by decide) ?_
            exact ih (v + 1) _ G10 (by omega) (by omega) (fun _ => by omega) ⟨by omega, fun _ => by omega⟩ (by rw [← hR, if_pos c80, if_neg (by omega)]) hW10
          · exact x_vret dX9_readTest_83 rfl (xEx_i _ (by rw [← hR, if_neg (by rw [c80]; decide)]; exact hW9) rfl rfl rfl)
      · have := (Mo.rd : Mo n s (rdP tp n j 0 d s)) q
        have := hvp this.1
        omega
      · have := (Mo.rd : Mo n s (rdP tp n j 0 d s)) q
        have := hn2 this.1
        omega
theorem Rr_test {K : xG} {h b tx n : Nat} {G0 : xHp} {tp : Nat → Nat} {K0 : Nat} (ihf : ∀ j, j < K0 → (∀ (d : Nat) (s : xPS) (G : xHp), d ≤ 10 → nd n j 1 s → RRd G0 G b tx n tp s → xCall K mX9_readFact (7 + 2 * (10 - d)) 0 0 [.ref b, .int (nI d)] h G (rrQ G0 h b tx n tp none (rdP tp n j 0 d s)))) : ∀ (d : Nat) (s : xPS) (G : xHp), d ≤ 10 → nd n K0 2 s → (s.1 = 0 → 1 ≤ s.2.1) → RRd G0 G b tx n tp s → xCall K mX9_readTest (8 + 2 * (10 - d)) 0 0 [.ref b, .int (nI d)] h G (rrQ G0 h b tx n tp none (rdP tp n K0 1 d s)) := by
  intro d s G hd hnd hp hW
  refine x_entry (by decide) (ls := [(0, .ref b), (1, .int (nI d))]) rfl (Nat.le_of_ble_eq_true rfl) ?_
  refine x_iconst dX9_readTest_0 ki_0 ?_
  refine x_istore_n (ls' := [(2, .int (nI 0)), (0, .ref b), (1, .int (nI d))]) dX9_readTest_1 (by decide) rfl ?_
  exact Rr_or hd ihf K0 0 s G (Nat.le_refl _) (by omega) hp hnd rfl hW
theorem Rr_both {K : xG} {h b tx n : Nat} {G0 : xHp} {tp : Nat → Nat} (k : Nat) : (∀ (d : Nat) (s : xPS) (G : xHp), d ≤ 10 → nd n k 1 s → RRd G0 G b tx n tp s → xCall K mX9_readFact (7 + 2 * (10 - d)) 0 0 [.ref b, .int (nI d)] h G (rrQ G0 h b tx n tp none (rdP tp n k 0 d s))) ∧ (∀ (d : Nat) (s : xPS) (G : xHp), d ≤ 10 → nd n k 2 s → (s.1 = 0 → 1 ≤ s.2.1) → RRd G0 G b tx n tp s → xCall K mX9_readTest (8 + 2 * (10 - d)) 0 0 [.ref b, .int (nI d)] h G (rrQ G0 h b tx n tp none (rdP tp n k 1 d s))) := by
  induction k using Nat.strongRecOn with
  | _ k ih =>
    refine ⟨?_, Rr_test (fun j hj => (ih j hj).1)⟩
    cases k with
    | zero => exact fun d s G hd hnd => absurd hnd.1 (by omega)
    | succ k => exact Rr_fact (ih k (by omega)).1 (ih k (by omega)).2
