theorem Md_test_loop {K : xG} {h y : Nat} {G0 : xHp} {hl : xHl} {r : xRw} {sc : Nat × Nat × Int32} {A0 : Nat → Nat → Int32} {F : Nat → Int32} {wa sa : Nat → Int64} {tn : Nat} {tp : Nat → Nat} {sl : Nat} {RR : List Nat × xPS} (hH : PH A0 tp tn sl) : ∀ (j : Nat) (w : Bool) (os : List Nat) (s : xPS) (G1 : xHp), (s.1 = 0 → tn - s.2.1 + 1 ≤ j) → (s.1 = 0 → os.length ≤ s.2.1) → (s.1 = 0 → ∀ o ∈ os, o < 13) → (s.1 = 0 → dpt os ≤ 10) → Hb tn (3 * pnd os + (if w = true then 3 else 6)) s → tsM tp tn j w os s = RR → PR G0 G1 y hl r sc A0 F wa sa tn tp sl 3 (dpt os) os s → xV K mX12_test 10 0 0 h G1 9 [(2, .int (nI 1)), (1, .int (bI w)), (0, .ref y)] [] (prQ G0 h y hl r sc A0 F wa sa tn tp sl 3 (dpt RR.1) RR.1 RR.2) := by
  obtain ⟨hT, hlt, htn, hs6⟩ := id hH
  intro j
  induction j with
  | zero =>
    intro w os s G1 hj hol hom hdp hb hr hq1
    have hr0 : (os, s) = RR := hr
    obtain ⟨hf1, A1, p1, co1, en1, dd1, op1, hM1, hK1, hp1, hc1, hz1⟩ := id hq1
    have hT1 : TpE (A1 27) tp := by rw [hK1.1 27 (by decide) (by decide) (by decide)]; exact hT
    refine x_iload_n dX12_test_9 0 rfl ?_
    refine x_ifN_eq (tgt := 202) dX12_test_10 (by decide) (by omega) (fun c10 => ?_) (fun c10 => ?_)
    · exact absurd c10 (by decide)
    · refine x_aload_n dX12_test_13 2 rfl ?_
      refine x_get (v := .int (nI ((s).1))) dX12_test_14 fX12_187 (hM1.1) rfl ?_
      refine x_ifN_ne (tgt := 202) dX12_test_17 (by decide) (by omega) (fun c17 => ?_) (fun c17 => ?_)
      · exact x_vret dX12_test_202 rfl (xEx_i G1 (by rw [← hr0]; exact hq1) rfl rfl rfl)
      · exact absurd (hj c17) (by omega)
  | succ j ih =>
    intro w os s G1 hj hol hom hdp hb hr hq1
    obtain ⟨hf1, A1, p1, co1, en1, dd1, op1, hM1, hK1, hp1, hc1, hz1⟩ := id hq1
    have hT1 : TpE (A1 27) tp := by rw [hK1.1 27 (by decide) (by decide) (by decide)]; exact hT
    refine x_iload_n dX12_test_9 0 rfl ?_
    refine x_ifN_eq (tgt := 202) dX12_test_10 (by decide) (by omega) (fun c10 => ?_) (fun c10 => ?_)
    · exact absurd c10 (by decide)
    · refine x_aload_n dX12_test_13 2 rfl ?_
      refine x_get (v := .int (nI ((s).1))) dX12_test_14 fX12_187 (hM1.1) rfl ?_
      refine x_ifN_ne (tgt := 202) dX12_test_17 (by decide) (by omega) (fun c17 => ?_) (fun c17 => ?_)
      · exact x_vret dX12_test_202 rfl (xEx_i G1 (by rw [← hr, ts_f c17]; exact hq1) rfl rfl rfl)
      · have h0 : s.1 = 0 := c17
        have hj2 := hj h0
        have hol2 := hol h0
        have hom2 := hom h0
        have hdp2 := hdp h0
        obtain ⟨b1, b2, b3⟩ := hb h0
        refine x_iload_n dX12_test_20 1 rfl ?_
        refine x_ifB_eq (tgt := 40) dX12_test_21 (by decide) (fun c21 => ?_) (fun c21 => ?_)
        · subst c21
          have hbn : Hb tn (3 * pnd os + 6) s := hb
          have ha1 := an_f (k := 9) (os := os) (s := s)
          have hb1 := Hb.an (k := 9) (by decide) hbn
          have h01 : (anP 9 os s).2.1 = 0 := ha1.1.trans h0
          have hm1 : ∀ o ∈ (anP 9 os s).1, o < 13 := fun o ho => hom2 o (an_mem ho)
          refine x_aload_n dX12_test_40 2 rfl ?_
          refine x_bipush dX12_test_41 kb_9 ?_
          refine x_pc (pc' := 43) rfl ?_
          refine x_cVe (N := mX12_answers) (d' := 1) (mc := 0) (ms := 0) (cb := 0) (sb := 0) (As := [.int (nI 9)]) (st := []) dX12_test_43 mX12_answers_v lX12_278 rfl rfl (hM1.1) rfl (by decide) (Nat.le_of_ble_eq_true rfl) (PR_ans9 (c0 := 6) hH h0 (by omega) hom2 hbn hq1) rfl (sf := fun G2 => []) (fun _ => rfl) (fun G2 hq2 => ?_)
          obtain ⟨hf2, A2, p2, co2, en2, dd2, op2, hM2, hK2, hp2, hc2, hz2⟩ := id hq2
          have hT2 : TpE (A2 27) tp := by rw [hK2.1 27 (by decide) (by decide) (by decide)]; exact hT
          refine x_aload_n dX12_test_46 2 rfl ?_
          refine x_cVe (N := mX12_blanks) (d' := 1) (mc := 0) (ms := 0) (cb := 0) (sb := 0) (As := []) (st := []) dX12_test_47 mX12_blanks_v lX12_210 rfl rfl (hM2.1) rfl (by decide) (Nat.le_of_ble_eq_true rfl) (PR_blanks hH hq2) rfl (sf := fun G3 => []) (fun _ => rfl) (fun G3 hq3 => ?_)
          obtain ⟨hf3, A3, p3, co3, en3, dd3, op3, hM3, hK3, hp3, hc3, hz3⟩ := id hq3
          have hT3 : TpE (A3 27) tp := by rw [hK3.1 27 (by decide) (by decide) (by decide)]; exact hT
          obtain ⟨z1, z2, z3, z4, z5, z6, z7, z8, z9⟩ := hz3 h01
          have z20 : p3 = skP tp tn s.2.1 := by rw [z2, ha1.2.1]
          have hwa : isW tp tn s 3 = stB tp tn p3 20 := isW_at (by decide) (by decide) (by decide) wl_e3 h0 z20
          have hwo : isW tp tn s 4 = stB tp tn p3 21 := isW_at (by decide) (by decide) (by decide) wl_e4 h0 z20
          refine x_aload_n dX12_test_50 2 rfl ?_
          refine x_ldcwS 20 (by decide) rfl rfl dX12_test_51 ?_
          refine x_cV (N := mX12_stood) (d' := 4) (mc := 0) (ms := 0) (cb := 0) (sb := 0) (As := [.ref (K.2.2.2.2.1 20)]) (st := []) dX12_test_54 mX12_stood_v lX12_213 rfl rfl (hM3.1) rfl (by decide) (Nat.le_of_ble_eq_true rfl) (Md_stood (i := 20) hT3 hlt htn hM3 (by decide) (by omega)) rfl (st1 := [.int (bI (stB tp tn p3 20))]) rfl ?_
          refine x_istore_n (ls' := [(3, .int (bI (stB tp tn p3 20))), (2, .int (nI 1)), (1, .int (bI false)), (0, .ref y)]) dX12_test_57 (by decide) rfl ?_
          refine x_aload_n dX12_test_58 3 rfl ?_
          refine x_ldcwS 21 (by decide) rfl rfl dX12_test_59 ?_
          refine x_cV (N := mX12_stood) (d' := 4) (mc := 0) (ms := 0) (cb := 0) (sb := 0) (As := [.ref (K.2.2.2.2.1 21)]) (st := []) dX12_test_62 mX12_stood_v lX12_213 rfl rfl (hM3.1) rfl (by decide) (Nat.le_of_ble_eq_true rfl) (Md_stood (i := 21) hT3 hlt htn hM3 (by decide) (by omega)) rfl (st1 := [.int (bI (stB tp tn p3 21))]) rfl ?_
          refine x_pc (pc' := 65) rfl ?_
          refine x_istore (ls' := [(4, .int (bI (stB tp tn p3 21))), (3, .int (bI (stB tp tn p3 20))), (2, .int (nI 1)), (1, .int (bI false)), (0, .ref y)]) dX12_test_65 (by decide) rfl ?_
          refine x_aload_n dX12_test_67 4 rfl ?_
          refine x_bipush dX12_test_68 kb_10 ?_
          have ha2 := an_f (k := 10) (os := (anP 9 os s).1) (s := (anP 9 os s).2)
          have hb2 : Hb tn (3 * pnd (anA os s).1 + 6) (anA os s).2 := Hb.an (k := 10) (by decide) hb1
          have h02 : (anA os s).2.1 = 0 := ha2.1.trans h01
          have hm2 : ∀ o ∈ (anA os s).1, o < 13 := fun o ho => hm1 o (an_mem ho)
          refine x_cVe (N := mX12_answers) (d' := 1) (mc := 0) (ms := 0) (cb := 0) (sb := 0) (As := [.int (nI 10)]) (st := []) dX12_test_70 mX12_answers_v lX12_278 rfl rfl (hM3.1) rfl (by decide) (Nat.le_of_ble_eq_true rfl) (PRs_ans10 (c0 := 6) hH h01 (by omega) hm1 hb1 hq3) rfl (sf := fun G4 => []) (fun _ => rfl) (fun G4 hq4 => ?_)
          have hq4 : PRs G0 G4 y hl r sc A0 F wa sa tn tp sl 3 (dpt (anA os s).1) ((anA os s).1) ((anA os s).2) := hq4
          obtain ⟨hf4, A4, p4, co4, en4, dd4, op4, hM4, hK4, hp4, hc4, hz4⟩ := id hq4
          have hT4 : TpE (A4 27) tp := by rw [hK4.1 27 (by decide) (by decide) (by decide)]; exact hT
          refine x_iload_n dX12_test_73 1 rfl ?_
          refine x_ifB_ne (tgt := 82) dX12_test_74 (by decide) (fun c74 => ?_) (fun c74 => ?_)
          · refine x_iload dX12_test_82 0 rfl ?_
            refine x_ifB_eq (tgt := 93) dX12_test_84 (by decide) (fun c84 => ?_) (fun c84 => ?_)
            · refine x_aload_n dX12_test_93 4 rfl ?_
              refine x_iload_n dX12_test_94 1 rfl ?_
              refine x_pc (pc' := 95) rfl ?_
              refine x_ifB_eq (tgt := 103) dX12_test_95 (by decide) (fun c95 => ?_) (fun c95 => ?_)
              · exact absurd (c74.symm.trans c95) (by decide)
              · refine x_bipush dX12_test_98 kb_10 ?_
                refine x_goto (tgt := 105) dX12_test_100 (by decide) ?_
                have hal : (anA os s).1.length ≤ os.length := by have := ha2.2.2.2.1; have := ha1.2.2.2.1; unfold anA; omega
                refine x_cVe (N := mX12_opens) (d' := 1) (mc := 0) (ms := 0) (cb := 0) (sb := 0) (As := [.int (nI 10)]) (st := []) dX12_test_105 mX12_opens_v lX12_269 rfl rfl (hM4.1) rfl (by decide) (Nat.le_of_ble_eq_true rfl) (PRs_opens10 htn hq4 h02 (by omega)) rfl (sf := fun G6 => []) (fun _ => rfl) (fun G6 hq6 => ?_)
                obtain ⟨hf6, A6, p6, co6, en6, dd6, op6, hM6, hK6, hp6, hc6, hz6⟩ := id hq6
                have hT6 : TpE (A6 27) tp := by rw [hK6.1 27 (by decide) (by decide) (by decide)]; exact hT
                obtain ⟨w1, w2, w3, w4, w5, w6, w7, w8, w9⟩ := hz6 h02
                refine x_aload_n dX12_test_108 4 rfl ?_
                refine x_dup dX12_test_109 rfl ?_
                refine x_get (v := .int (nI p6)) dX12_test_110 fX12_190 (hM6.1) rfl ?_
                refine x_iload_n dX12_test_113 1 rfl ?_
                refine x_ifB_eq (tgt := 121) dX12_test_114 (by decide) (fun c114 => ?_) (fun c114 => ?_)
                · exact absurd (c74.symm.trans c114) (by decide)
                · refine x_iconst dX12_test_117 ki_3 ?_
                  refine x_pc (pc' := 118) rfl ?_
                  refine x_goto (tgt := 122) dX12_test_118 (by decide) ?_
                  refine x_iaddN dX12_test_122 ?_
                  refine x_put (fs' := [.int (F 0), .ref (y + 1), .ref (y + 2), .ref (y + 3), .ref (y + 4), .ref (y + 5), .ref (y + 6), .ref (y + 7), .ref (y + 8), .ref (y + 9), .ref (y + 10), .ref (y + 11), .ref (y + 12), .ref (y + 13), .ref (y + 14), .ref (y + 15), .ref (y + 16), .ref (y + 17), .ref (y + 18), .ref (y + 19), .ref (y + 20), .ref (y + 21), .ref (y + 22), .ref (y + 23), .ref (y + 24), .ref (y + 25), .ref (y + 26), .int (nI tn), .int (nI (p6 + 3)), .int (nI (((anA os s).2).1)), .int (nI sl), .int (F 31), .int (nI en6), .int (nI dd6), .int (nI co6), .int (nI op6), .int (nI 12), .ref (y + 27), .ref (y + 28), .ref (y + 29), .ref (y + 30), .ref (y + 31), .ref (y + 32), .ref (y + 33), .ref (y + 34), .ref (y + 35), .ref (y + 36), .ref (y + 37), .ref (y + 38), .int (F 49), .int (F 50), .int (F 51), .int (F 52), .int (F 53), .ref (y + 39), .ref (y + 40), .ref (y + 41), .int (F 57), .int (F 58), .ref (y + 42), .ref (y + 43), .ref (y + 44), .ref (y + 45), .int (F 63), .int (F 64)]) dX12_test_123 fX12_190 (hM6.1) (Nat.le_of_ble_eq_true rfl) rfl rfl rfl ?_
                  refine x_geq (G' := xup _ y (modO y (pF (upd F 36 (nI 12)) tn (p6 + 3) (((anA os s).2).1) sl en6 dd6 co6 op6))) rfl ?_
                  have hM101 := hM6.fld (pF (upd F 36 (nI 12)) tn (p6 + 3) (((anA os s).2).1) sl en6 dd6 co6 op6)
                  refine x_iconst dX12_test_126 ki_1 ?_
                  refine x_topi (y := bI true) rfl ?_
                  refine x_istore_n (ls' := [(1, .int (bI true)), (4, .int (bI (stB tp tn p3 21))), (3, .int (bI (stB tp tn p3 20))), (2, .int (nI 1)), (0, .ref y)]) dX12_test_127 (by decide) rfl ?_
                  refine x_goto (tgt := 199) dX12_test_128 (by decide) ?_
                  refine x_goto (tgt := 9) dX12_test_199 (by decide) ?_
                  refine x_perm (ls' := [(2, .int (nI 1)), (1, .int (bI true)), (0, .ref y)]) [3, 0, 4] rfl ?_
                  have hx := st_at (tp := tp) (n := tn) (by decide) xl_20 c74
                  have hp36 : p6 = p3 := w2.trans ((congrArg (skP tp tn) (show (anA os s).2.2.1 = (anP 9 os s).2.2.1 from ha2.2.1)).trans z2.symm)
                  have hps : (anA os s).2.2.1 = s.2.1 := (show (anA os s).2.2.1 = (anP 9 os s).2.2.1 from ha2.2.1).trans ha1.2.1
                  have hnx : (nextP tp tn (anA os s).2).2.1 = p3 + 3 := by show atA tp tn (skP tp tn (anA os s).2.2.1) = _; rw [hps, ← z20]; exact hx.2
                  have hn : PR G0 _ y hl r sc A0 F wa sa tn tp sl 3 (dpt (10 :: (anA os s).1)) (10 :: (anA os s).1) (nextP tp tn (anA os s).2) := PRs.step (s' := nextP tp tn (anA os s).2) hM101 hf6 hK6 (by omega) (by omega) (fun q0 => ⟨by omega, by rw [hnx, hp36], w3, w4, w5, w6, w7, w8, w9⟩)
                  have hsk := sk_le (tp := tp) b1
                  rw [ts_a h0 (hwa.trans c74)] at hr
                  have hdd : dpt (anA os s).1 ≤ 10 := by have := ha2.2.2.2.2; have := ha1.2.2.2.2; unfold anA; omega
                  exact ih true _ _ _ (fun q0 => by omega) (fun q0 => by rw [hnx]; simp only [List.length_cons]; omega) (fun q0 o ho => by rcases List.mem_cons.mp ho with e1 | e1; omega; exact hm2 o e1) (fun q0 => by show dpt (anA os s).1 + 0 ≤ 10; omega) (Hb.next (hb2.wk (by rw [pnd_c (by decide)]; show 3 * (pnd (anA os s).1 + 1) + 3 ≤ _; omega))) hr hn
            · exact (st_2 c74 c84).elim
          · refine x_iload dX12_test_77 0 rfl ?_
            refine x_ifB_eq (tgt := 131) dX12_test_79 (by decide) (fun c79 => ?_) (fun c79 => ?_)
            · refine x_aload_n dX12_test_131 4 rfl ?_
              refine x_bipush dX12_test_132 kb_11 ?_
              refine x_pc (pc' := 134) rfl ?_
              have ha3 := an_f (k := 11) (os := (anA os s).1) (s := (anA os s).2)
              have hb3 : Hb tn (3 * pnd (anO os s).1 + 6) (anO os s).2 := Hb.an (k := 11) (by decide) hb2
              have h03 : (anO os s).2.1 = 0 := ha3.1.trans h02
              have hm3 : ∀ o ∈ (anO os s).1, o < 13 := fun o ho => hm2 o (an_mem ho)
              have hal : (anA os s).1.length ≤ os.length := by have := ha2.2.2.2.1; have := ha1.2.2.2.1; unfold anA; omega
              refine x_cVe (N := mX12_answers) (d' := 1) (mc := 0) (ms := 0) (cb := 0) (sb := 0) (As := [.int (nI 11)]) (st := []) dX12_test_134 mX12_answers_v lX12_278 rfl rfl (hM4.1) rfl (by decide) (Nat.le_of_ble_eq_true rfl) (PRs_ans11 (c0 := 6) hH h02 (by omega) hm2 hb2 hq4) rfl (sf := fun G5 => []) (fun _ => rfl) (fun G5 hq5 => ?_)
              have hq5 : PRs G0 G5 y hl r sc A0 F wa sa tn tp sl 3 (dpt (anO os s).1) ((anO os s).1) ((anO os s).2) := hq5
              obtain ⟨hf5, A5, p5, co5, en5, dd5, op5, hM5, hK5, hp5, hc5, hz5⟩ := id hq5
              have hT5 : TpE (A5 27) tp := by rw [hK5.1 27 (by decide) (by decide) (by decide)]; exact hT
              refine x_aload_n dX12_test_137 4 rfl ?_
              refine x_cV (N := mX12_top) (d' := 0) (mc := 0) (ms := 0) (cb := 0) (sb := 0) (As := []) (st := []) dX12_test_138 mX12_top_v lX12_264 rfl rfl (hM5.1) rfl (by decide) (Nat.le_of_ble_eq_true rfl) (PRs_top hq5 h03 (by have := ha3.2.2.2.1; unfold anO; omega)) rfl (st1 := [.int (topV (anO os s).1)]) rfl ?_
              refine x_bipush dX12_test_141 kb_12 ?_
              refine x_icmp_ne (x := topV (anO os s).1) (y := nI 12) (tgt := 197) dX12_test_143 (by decide) (fun c143 => ?_) (fun c143 => ?_)
              · refine x_iconst dX12_test_197 ki_0 ?_
                refine x_istore_n (ls' := [(2, .int (nI 0)), (4, .int (bI (stB tp tn p3 21))), (3, .int (bI (stB tp tn p3 20))), (1, .int (bI false)), (0, .ref y)]) dX12_test_198 (by decide) rfl ?_
                refine x_goto (tgt := 9) dX12_test_199 (by decide) ?_
                refine x_iload_n dX12_test_9 0 rfl ?_
                refine x_ifN_eq (tgt := 202) dX12_test_10 (by decide) (by omega) (fun c10 => ?_) (fun c10 => ?_)
                · refine x_pc (pc' := 202) rfl ?_
                  have hi3 : isW tp tn s 3 = false := hwa.trans c74
                  have hi4 : isW tp tn s 4 = false := hwo.trans c79
                  exact x_vret dX12_test_202 rfl (xEx_i G5 (by rw [← hr, ts_e h0 hi3 hi4 (topV_n c143)]; exact PRs.to (fun q0 => (hb3 q0).1) hq5) rfl rfl rfl)
                · exact absurd c10 (by decide)
              · obtain ⟨os', hos⟩ := topV_12 c143 hm3
                obtain ⟨w1, w2, w3, w4, w5, w6, w7, w8, w9⟩ := hz5 h03
                rw [hos] at w6 w7 w8
                have w60 : dd5 = dpt os' + 1 := w6
                have w70 : op5 = os'.length + 1 := w7
                subst w60
                subst w70
                have w20 : p5 = skP tp tn (anO os s).2.2.1 := w2
                have hs93 := isS_sg (c := 93) h03 w20 hlt (by decide)
                have hi3 : isW tp tn s 3 = false := hwa.trans c74
                have hi4 : isW tp tn s 4 = false := hwo.trans c79
                rw [ts_b h0 hi3 hi4 hos] at hr
                refine x_aload_n dX12_test_146 4 rfl ?_
                refine x_cV (N := mX12_sign) (d' := 0) (mc := 0) (ms := 0) (cb := 0) (sb := 0) (As := []) (st := []) dX12_test_147 mX12_sign_v lX12_193 rfl rfl (hM5.1) rfl (by decide) (Nat.le_of_ble_eq_true rfl) (Md_sign hT5 hlt htn hM5 (by omega)) rfl (st1 := [.int (sgV tp tn p5)]) rfl ?_
                refine x_bipush dX12_test_150 kb_93 ?_
                refine x_icmp_eq (x := sgV tp tn p5) (y := nI 93) (tgt := 164) dX12_test_152 (by decide) (fun c152 => ?_) (fun c152 => ?_)
                · refine x_aload_n dX12_test_164 4 rfl ?_
                  refine x_pc (pc' := 165) rfl ?_
                  refine x_dup dX12_test_165 rfl ?_
                  refine x_get (v := .int (nI p5)) dX12_test_166 fX12_190 (hM5.1) rfl ?_
                  refine x_iconst dX12_test_169 ki_1 ?_
                  refine x_iaddN dX12_test_170 ?_
                  refine x_put (fs' := [.int (F 0), .ref (y + 1), .ref (y + 2), .ref (y + 3), .ref (y + 4), .ref (y + 5), .ref (y + 6), .ref (y + 7), .ref (y + 8), .ref (y + 9), .ref (y + 10), .ref (y + 11), .ref (y + 12), .ref (y + 13), .ref (y + 14), .ref (y + 15), .ref (y + 16), .ref (y + 17), .ref (y + 18), .ref (y + 19), .ref (y + 20), .ref (y + 21), .ref (y + 22), .ref (y + 23), .ref (y + 24), .ref (y + 25), .ref (y + 26), .int (nI tn), .int (nI (p5 + 1)), .int (nI (((anO os s).2).1)), .int (nI sl), .int (F 31), .int (nI en5), .int (nI (dpt os' + 1)), .int (nI co5), .int (nI (os'.length + 1)), .int (nI 12), .ref (y + 27), .ref (y + 28), .ref (y + 29), .ref (y + 30), .ref (y + 31), .ref (y + 32), .ref (y + 33), .ref (y + 34), .ref (y + 35), .ref (y + 36), .ref (y + 37), .ref (y + 38), .int (F 49), .int (F 50), .int (F 51), .int (F 52), .int (F 53), .ref (y + 39), .ref (y + 40), .ref (y + 41), .int (F 57), .int (F 58), .ref (y + 42), .ref (y + 43), .ref (y + 44), .ref (y + 45), .int (F 63), .int (F 64)]) dX12_test_171 fX12_190 (hM5.1) (Nat.le_of_ble_eq_true rfl) rfl rfl rfl ?_
                  refine x_geq (G' := xup _ y (modO y (pF (upd F 36 (nI 12)) tn (p5 + 1) (((anO os s).2).1) sl en5 (dpt os' + 1) co5 (os'.length + 1)))) rfl ?_
                  have hM102 := hM5.fld (pF (upd F 36 (nI 12)) tn (p5 + 1) (((anO os s).2).1) sl en5 (dpt os' + 1) co5 (os'.length + 1))
                  refine x_aload_n dX12_test_174 4 rfl ?_
                  refine x_dup dX12_test_175 rfl ?_
                  refine x_get (v := .int (nI (os'.length + 1))) dX12_test_176 fX12_258 (hM102.1) rfl ?_
                  refine x_iconst dX12_test_179 ki_1 ?_
                  refine x_isubN dX12_test_180 (by omega) ?_
                  refine x_topi (y := nI os'.length) (by rw [Nat.add_sub_cancel]) ?_
                  refine x_pc (pc' := 181) rfl ?_
                  refine x_put (fs' := [.int (F 0), .ref (y + 1), .ref (y + 2), .ref (y + 3), .ref (y + 4), .ref (y + 5), .ref (y + 6), .ref (y + 7), .ref (y + 8), .ref (y + 9), .ref (y + 10), .ref (y + 11), .ref (y + 12), .ref (y + 13), .ref (y + 14), .ref (y + 15), .ref (y + 16), .ref (y + 17), .ref (y + 18), .ref (y + 19), .ref (y + 20), .ref (y + 21), .ref (y + 22), .ref (y + 23), .ref (y + 24), .ref (y + 25), .ref (y + 26), .int (nI tn), .int (nI (p5 + 1)), .int (nI (((anO os s).2).1)), .int (nI sl), .int (F 31), .int (nI en5), .int (nI (dpt os' + 1)), .int (nI co5), .int (nI os'.length), .int (nI 12), .ref (y + 27), .ref (y + 28), .ref (y + 29), .ref (y + 30), .ref (y + 31), .ref (y + 32), .ref (y + 33), .ref (y + 34), .ref (y + 35), .ref (y + 36), .ref (y + 37), .ref (y + 38), .int (F 49), .int (F 50), .int (F 51), .int (F 52), .int (F 53), .ref (y + 39), .ref (y + 40), .ref (y + 41), .int (F 57), .int (F 58), .ref (y + 42), .ref (y + 43), .ref (y + 44), .ref (y + 45), .int (F 63), .int (F 64)]) dX12_test_181 fX12_258 (hM102.1) (Nat.le_of_ble_eq_true rfl) rfl rfl rfl ?_
                  refine x_geq (G' := xup _ y (modO y (pF (upd F 36 (nI 12)) tn (p5 + 1) (((anO os s).2).1) sl en5 (dpt os' + 1) co5 os'.length))) rfl ?_
                  have hM103 := hM102.fld (pF (upd F 36 (nI 12)) tn (p5 + 1) (((anO os s).2).1) sl en5 (dpt os' + 1) co5 os'.length)
                  refine x_aload_n dX12_test_184 4 rfl ?_
                  refine x_dup dX12_test_185 rfl ?_
                  refine x_get (v := .int (nI (dpt os' + 1))) dX12_test_186 fX12_261 (hM103.1) rfl ?_
                  refine x_iconst dX12_test_189 ki_1 ?_
                  refine x_isubN dX12_test_190 (by omega) ?_
                  refine x_topi (y := nI (dpt os')) (by rw [Nat.add_sub_cancel]) ?_
                  refine x_put (fs' := [.int (F 0), .ref (y + 1), .ref (y + 2), .ref (y + 3), .ref (y + 4), .ref (y + 5), .ref (y + 6), .ref (y + 7), .ref (y + 8), .ref (y + 9), .ref (y + 10), .ref (y + 11), .ref (y + 12), .ref (y + 13), .ref (y + 14), .ref (y + 15), .ref (y + 16), .ref (y + 17), .ref (y + 18), .ref (y + 19), .ref (y + 20), .ref (y + 21), .ref (y + 22), .ref (y + 23), .ref (y + 24), .ref (y + 25), .ref (y + 26), .int (nI tn), .int (nI (p5 + 1)), .int (nI (((anO os s).2).1)), .int (nI sl), .int (F 31), .int (nI en5), .int (nI (dpt os')), .int (nI co5), .int (nI os'.length), .int (nI 12), .ref (y + 27), .ref (y + 28), .ref (y + 29), .ref (y + 30), .ref (y + 31), .ref (y + 32), .ref (y + 33), .ref (y + 34), .ref (y + 35), .ref (y + 36), .ref (y + 37), .ref (y + 38), .int (F 49), .int (F 50), .int (F 51), .int (F 52), .int (F 53), .ref (y + 39), .ref (y + 40), .ref (y + 41), .int (F 57), .int (F 58), .ref (y + 42), .ref (y + 43), .ref (y + 44), .ref (y + 45), .int (F 63), .int (F 64)]) dX12_test_191 fX12_261 (hM103.1) (Nat.le_of_ble_eq_true rfl) rfl rfl rfl ?_
                  refine x_geq (G' := xup _ y (modO y (pF (upd F 36 (nI 12)) tn (p5 + 1) (((anO os s).2).1) sl en5 (dpt os') co5 os'.length))) rfl ?_
                  have hM104 := hM103.fld (pF (upd F 36 (nI 12)) tn (p5 + 1) (((anO os s).2).1) sl en5 (dpt os') co5 os'.length)
                  refine x_goto (tgt := 199) dX12_test_194 (by decide) ?_
                  refine x_goto (tgt := 9) dX12_test_199 (by decide) ?_
                  refine x_perm (ls' := [(2, .int (nI 1)), (1, .int (bI false)), (0, .ref y)]) [2, 3, 4] rfl ?_
                  have hps : (anO os s).2.2.1 = s.2.1 := (show (anO os s).2.2.1 = (anA os s).2.2.1 from ha3.2.1).trans ((show (anA os s).2.2.1 = (anP 9 os s).2.2.1 from ha2.2.1).trans ha1.2.1)
                  have hsk := sk_le (tp := tp) b1
                  have hdd : dpt (anO os s).1 ≤ 10 := by have := ha3.2.2.2.2; have := ha2.2.2.2.2; have := ha1.2.2.2.2; unfold anO anA; unfold anA at *; omega
                  have hll : (anO os s).1.length ≤ os.length := by have := ha3.2.2.2.1; have := ha2.2.2.2.1; have := ha1.2.2.2.1; unfold anO anA; unfold anA at *; omega
                  rw [hos] at hdd hll hb3 hm3
                  have hdd2 : dpt os' + 1 ≤ 10 := hdd
                  simp only [List.length_cons] at hll
                  have hcl : clsP tp tn (anO os s).2 = nextP tp tn (anO os s).2 := if_pos (hs93.mpr c152)
                  have hx := sg_at (tp := tp) (n := tn) hlt (c := 93) (by decide) c152
                  have hnx : (nextP tp tn (anO os s).2).2.1 = p5 + 1 := by show atA tp tn (skP tp tn (anO os s).2.2.1) = _; rw [← w20]; exact hx.2
                  have hn : PR G0 _ y hl r sc A0 F wa sa tn tp sl 3 (dpt os') os' (nextP tp tn (anO os s).2) := PRs.step (s' := nextP tp tn (anO os s).2) hM104 hf5 hK5 (by omega) (by omega) (fun q0 => ⟨by omega, by rw [hnx], w3, w4, w5, rfl, rfl, w8.tl, w9⟩)
                  rw [hcl] at hr
                  have w21 : p5 = skP tp tn s.2.1 := by rw [w20, hps]
                  exact ih false _ _ _ (fun q0 => by omega) (fun q0 => by omega) (fun q0 o ho => hm3 o (List.mem_cons_of_mem 12 ho)) (fun q0 => by omega) (Hb.next hb3) hr hn
                · refine x_aload_n dX12_test_155 4 rfl ?_
                  refine x_pc (pc' := 156) rfl ?_
                  refine x_iconst dX12_test_156 ki_0 ?_
                  refine x_aload_n dX12_test_157 4 rfl ?_
                  refine x_get (v := .int (nI p5)) dX12_test_158 fX12_190 (hM5.1) rfl ?_
                  refine x_cVe (N := mX12_fails) (d' := 0) (mc := 0) (ms := 0) (cb := 0) (sb := 0) (As := [.int (nI 0), .int (nI p5)]) (st := []) dX12_test_161 mX12_fails_v lX12_226 rfl rfl (hM5.1) rfl (by decide) (Nat.le_of_ble_eq_true rfl) (Md_fails hM5 hf5) rfl (sf := fun G7 => []) (fun _ => rfl) (fun G7 hN7 => ?_)
                  refine x_aload_n dX12_test_164 4 rfl ?_
                  refine x_dup dX12_test_165 rfl ?_
                  refine x_get (v := .int (nI p5)) dX12_test_166 fX12_190 (hN7.1) rfl ?_
                  refine x_iconst dX12_test_169 ki_1 ?_
                  refine x_iaddN dX12_test_170 ?_
                  refine x_put (fs' := [.int (F 0), .ref (y + 1), .ref (y + 2), .ref (y + 3), .ref (y + 4), .ref (y + 5), .ref (y + 6), .ref (y + 7), .ref (y + 8), .ref (y + 9), .ref (y + 10), .ref (y + 11), .ref (y + 12), .ref (y + 13), .ref (y + 14), .ref (y + 15), .ref (y + 16), .ref (y + 17), .ref (y + 18), .ref (y + 19), .ref (y + 20), .ref (y + 21), .ref (y + 22), .ref (y + 23), .ref (y + 24), .ref (y + 25), .ref (y + 26), .int (nI tn), .int (nI (p5 + 1)), .int (nI (flt (anO os s).2.1 0 p5)), .int (nI sl), .int (F 31), .int (nI en5), .int (nI (dpt os' + 1)), .int (nI co5), .int (nI (os'.length + 1)), .int (nI 12), .ref (y + 27), .ref (y + 28), .ref (y + 29), .ref (y + 30), .ref (y + 31), .ref (y + 32), .ref (y + 33), .ref (y + 34), .ref (y + 35), .ref (y + 36), .ref (y + 37), .ref (y + 38), .int (F 49), .int (F 50), .int (F 51), .int (F 52), .int (F 53), .ref (y + 39), .ref (y + 40), .ref (y + 41), .int (F 57), .int (F 58), .ref (y + 42), .ref (y + 43), .ref (y + 44), .ref (y + 45), .int (F 63), .int (F 64)]) dX12_test_171 fX12_190 (hN7.1) (Nat.le_of_ble_eq_true rfl) rfl rfl rfl ?_
                  refine x_geq (G' := xup _ y (modO y (pF (upd F 36 (nI 12)) tn (p5 + 1) (flt (anO os s).2.1 0 p5) sl en5 (dpt os' + 1) co5 (os'.length + 1)))) rfl ?_
                  have hM105 := hN7.fld (pF (upd F 36 (nI 12)) tn (p5 + 1) (flt (anO os s).2.1 0 p5) sl en5 (dpt os' + 1) co5 (os'.length + 1))
                  refine x_pc (pc' := 174) rfl ?_
                  refine x_aload_n dX12_test_174 4 rfl ?_
                  refine x_dup dX12_test_175 rfl ?_
                  refine x_get (v := .int (nI (os'.length + 1))) dX12_test_176 fX12_258 (hM105.1) rfl ?_
                  refine x_iconst dX12_test_179 ki_1 ?_
                  refine x_isubN dX12_test_180 (by omega) ?_
                  refine x_topi (y := nI os'.length) (by rw [Nat.add_sub_cancel]) ?_
                  refine x_put (fs' := [.int (F 0), .ref (y + 1), .ref (y + 2), .ref (y + 3), .ref (y + 4), .ref (y + 5), .ref (y + 6), .ref (y + 7), .ref (y + 8), .ref (y + 9), .ref (y + 10), .ref (y + 11), .ref (y + 12), .ref (y + 13), .ref (y + 14), .ref (y + 15), .ref (y + 16), .ref (y + 17), .ref (y + 18), .ref (y + 19), .ref (y + 20), .ref (y + 21), .ref (y + 22), .ref (y + 23), .ref (y + 24), .ref (y + 25), .ref (y + 26), .int (nI tn), .int (nI (p5 + 1)), .int (nI (flt (anO os s).2.1 0 p5)), .int (nI sl), .int (F 31), .int (nI en5), .int (nI (dpt os' + 1)), .int (nI co5), .int (nI os'.length), .int (nI 12), .ref (y + 27), .ref (y + 28), .ref (y + 29), .ref (y + 30), .ref (y + 31), .ref (y + 32), .ref (y + 33), .ref (y + 34), .ref (y + 35), .ref (y + 36), .ref (y + 37), .ref (y + 38), .int (F 49), .int (F 50), .int (F 51), .int (F 52), .int (F 53), .ref (y + 39), .ref (y + 40), .ref (y + 41), .int (F 57), .int (F 58), .ref (y + 42), .ref (y + 43), .ref (y + 44), .ref (y + 45), .int (F 63), .int (F 64)]) dX12_test_181 fX12_258 (hM105.1) (Nat.le_of_ble_eq_true rfl) rfl rfl rfl ?_
                  refine x_geq (G' := xup _ y (modO y (pF (upd F 36 (nI 12)) tn (p5 + 1) (flt (anO os s).2.1 0 p5) sl en5 (dpt os' + 1) co5 os'.length))) rfl ?_
                  have hM106 := hM105.fld (pF (upd F 36 (nI 12)) tn (p5 + 1) (flt (anO os s).2.1 0 p5) sl en5 (dpt os' + 1) co5 os'.length)
                  refine x_aload_n dX12_test_184 4 rfl ?_
                  refine x_dup dX12_test_185 rfl ?_
                  refine x_get (v := .int (nI (dpt os' + 1))) dX12_test_186 fX12_261 (hM106.1) rfl ?_
                  refine x_iconst dX12_test_189 ki_1 ?_
                  refine x_pc (pc' := 190) rfl ?_
                  refine x_isubN dX12_test_190 (by omega) ?_
                  refine x_topi (y := nI (dpt os')) (by rw [Nat.add_sub_cancel]) ?_
                  refine x_put (fs' := [.int (F 0), .ref (y + 1), .ref (y + 2), .ref (y + 3), .ref (y + 4), .ref (y + 5), .ref (y + 6), .ref (y + 7), .ref (y + 8), .ref (y + 9), .ref (y + 10), .ref (y + 11), .ref (y + 12), .ref (y + 13), .ref (y + 14), .ref (y + 15), .ref (y + 16), .ref (y + 17), .ref (y + 18), .ref (y + 19), .ref (y + 20), .ref (y + 21), .ref (y + 22), .ref (y + 23), .ref (y + 24), .ref (y + 25), .ref (y + 26), .int (nI tn), .int (nI (p5 + 1)), .int (nI (flt (anO os s).2.1 0 p5)), .int (nI sl), .int (F 31), .int (nI en5), .int (nI (dpt os')), .int (nI co5), .int (nI os'.length), .int (nI 12), .ref (y + 27), .ref (y + 28), .ref (y + 29), .ref (y + 30), .ref (y + 31), .ref (y + 32), .ref (y + 33), .ref (y + 34), .ref (y + 35), .ref (y + 36), .ref (y + 37), .ref (y + 38), .int (F 49), .int (F 50), .int (F 51), .int (F 52), .int (F 53), .ref (y + 39), .ref (y + 40), .ref (y + 41), .int (F 57), .int (F 58), .ref (y + 42), .ref (y + 43), .ref (y + 44), .ref (y + 45), .int (F 63), .int (F 64)]) dX12_test_191 fX12_261 (hM106.1) (Nat.le_of_ble_eq_true rfl) rfl rfl rfl ?_
                  refine x_geq (G' := xup _ y (modO y (pF (upd F 36 (nI 12)) tn (p5 + 1) (flt (anO os s).2.1 0 p5) sl en5 (dpt os') co5 os'.length))) rfl ?_
                  have hM107 := hM106.fld (pF (upd F 36 (nI 12)) tn (p5 + 1) (flt (anO os s).2.1 0 p5) sl en5 (dpt os') co5 os'.length)
                  refine x_goto (tgt := 199) dX12_test_194 (by decide) ?_
                  refine x_goto (tgt := 9) dX12_test_199 (by decide) ?_
                  refine x_perm (ls' := [(2, .int (nI 1)), (1, .int (bI false)), (0, .ref y)]) [2, 3, 4] rfl ?_
                  have hps : (anO os s).2.2.1 = s.2.1 := (show (anO os s).2.2.1 = (anA os s).2.2.1 from ha3.2.1).trans ((show (anA os s).2.2.1 = (anP 9 os s).2.2.1 from ha2.2.1).trans ha1.2.1)
                  have hsk := sk_le (tp := tp) b1
                  have hdd : dpt (anO os s).1 ≤ 10 := by have := ha3.2.2.2.2; have := ha2.2.2.2.2; have := ha1.2.2.2.2; unfold anO anA; unfold anA at *; omega
                  have hll : (anO os s).1.length ≤ os.length := by have := ha3.2.2.2.1; have := ha2.2.2.2.1; have := ha1.2.2.2.1; unfold anO anA; unfold anA at *; omega
                  rw [hos] at hdd hll hb3 hm3
                  have hdd2 : dpt os' + 1 ≤ 10 := hdd
                  simp only [List.length_cons] at hll
                  have hcl : clsP tp tn (anO os s).2 = failP tp tn (anO os s).2 0 := if_neg (fun q0 => c152 (hs93.mp q0))
                  have hdf := deep_f (tp := tp) (n := tn) (c := 0) h03 w20
                  have hn : PR G0 _ y hl r sc A0 F wa sa tn tp sl 3 (dpt os') os' (failP tp tn (anO os s).2 0) := ⟨by rw [hdf]; exact flt_lt hf5 (by decide) (by omega), _, _, _, _, _, _, by rw [hdf]; exact hM107, hK5, by omega, by omega, fun q0 => absurd q0 failP_ne⟩
                  rw [hcl] at hr
                  exact ih false _ _ _ (fun q0 => absurd q0 failP_ne) (fun q0 => absurd q0 failP_ne) (fun q0 => absurd q0 failP_ne) (fun q0 => absurd q0 failP_ne) (fun q0 => absurd q0 failP_ne) hr hn
            · refine x_iload dX12_test_82 0 rfl ?_
              refine x_ifB_eq (tgt := 93) dX12_test_84 (by decide) (fun c84 => ?_) (fun c84 => ?_)
              · exact absurd (c79.symm.trans c84) (by decide)
              · refine x_pc (pc' := 87) rfl ?_
                refine x_aload_n dX12_test_87 4 rfl ?_
                refine x_bipush dX12_test_88 kb_11 ?_
                have ha3 := an_f (k := 11) (os := (anA os s).1) (s := (anA os s).2)
                have hb3 : Hb tn (3 * pnd (anO os s).1 + 6) (anO os s).2 := Hb.an (k := 11) (by decide) hb2
                have h03 : (anO os s).2.1 = 0 := ha3.1.trans h02
                have hm3 : ∀ o ∈ (anO os s).1, o < 13 := fun o ho => hm2 o (an_mem ho)
                have hal : (anA os s).1.length ≤ os.length := by have := ha2.2.2.2.1; have := ha1.2.2.2.1; unfold anA; omega
                refine x_cVe (N := mX12_answers) (d' := 1) (mc := 0) (ms := 0) (cb := 0) (sb := 0) (As := [.int (nI 11)]) (st := []) dX12_test_90 mX12_answers_v lX12_278 rfl rfl (hM4.1) rfl (by decide) (Nat.le_of_ble_eq_true rfl) (PRs_ans11 (c0 := 6) hH h02 (by omega) hm2 hb2 hq4) rfl (sf := fun G5 => []) (fun _ => rfl) (fun G5 hq5 => ?_)
                have hq5 : PRs G0 G5 y hl r sc A0 F wa sa tn tp sl 3 (dpt (anO os s).1) ((anO os s).1) ((anO os s).2) := hq5
                obtain ⟨hf5, A5, p5, co5, en5, dd5, op5, hM5, hK5, hp5, hc5, hz5⟩ := id hq5
                have hT5 : TpE (A5 27) tp := by rw [hK5.1 27 (by decide) (by decide) (by decide)]; exact hT
                refine x_aload_n dX12_test_93 4 rfl ?_
                refine x_iload_n dX12_test_94 1 rfl ?_
                refine x_ifB_eq (tgt := 103) dX12_test_95 (by decide) (fun c95 => ?_) (fun c95 => ?_)
                · refine x_bipush dX12_test_103 kb_11 ?_
                  have hal3 : (anO os s).1.length ≤ os.length := by have := ha3.2.2.2.1; unfold anO; omega
                  refine x_cVe (N := mX12_opens) (d' := 1) (mc := 0) (ms := 0) (cb := 0) (sb := 0) (As := [.int (nI 11)]) (st := []) dX12_test_105 mX12_opens_v lX12_269 rfl rfl (hM5.1) rfl (by decide) (Nat.le_of_ble_eq_true rfl) (PRs_opens11 htn hq5 h03 (by omega)) rfl (sf := fun G6 => []) (fun _ => rfl) (fun G6 hq6 => ?_)
                  obtain ⟨hf6, A6, p6, co6, en6, dd6, op6, hM6, hK6, hp6, hc6, hz6⟩ := id hq6
                  have hT6 : TpE (A6 27) tp := by rw [hK6.1 27 (by decide) (by decide) (by decide)]; exact hT
                  obtain ⟨w1, w2, w3, w4, w5, w6, w7, w8, w9⟩ := hz6 h03
                  refine x_aload_n dX12_test_108 4 rfl ?_
                  refine x_dup dX12_test_109 rfl ?_
                  refine x_pc (pc' := 110) rfl ?_
                  refine x_get (v := .int (nI p6)) dX12_test_110 fX12_190 (hM6.1) rfl ?_
                  refine x_iload_n dX12_test_113 1 rfl ?_
                  refine x_ifB_eq (tgt := 121) dX12_test_114 (by decide) (fun c114 => ?_) (fun c114 => ?_)
                  · refine x_iconst dX12_test_121 ki_2 ?_
                    refine x_iaddN dX12_test_122 ?_
                    refine x_put (fs' := [.int (F 0), .ref (y + 1), .ref (y + 2), .ref (y + 3), .ref (y + 4), .ref (y + 5), .ref (y + 6), .ref (y + 7), .ref (y + 8), .ref (y + 9), .ref (y + 10), .ref (y + 11), .ref (y + 12), .ref (y + 13), .ref (y + 14), .ref (y + 15), .ref (y + 16), .ref (y + 17), .ref (y + 18), .ref (y + 19), .ref (y + 20), .ref (y + 21), .ref (y + 22), .ref (y + 23), .ref (y + 24), .ref (y + 25), .ref (y + 26), .int (nI tn), .int (nI (p6 + 2)), .int (nI (((anO os s).2).1)), .int (nI sl), .int (F 31), .int (nI en6), .int (nI dd6), .int (nI co6), .int (nI op6), .int (nI 12), .ref (y + 27), .ref (y + 28), .ref (y + 29), .ref (y + 30), .ref (y + 31), .ref (y + 32), .ref (y + 33), .ref (y + 34), .ref (y + 35), .ref (y + 36), .ref (y + 37), .ref (y + 38), .int (F 49), .int (F 50), .int (F 51), .int (F 52), .int (F 53), .ref (y + 39), .ref (y + 40), .ref (y + 41), .int (F 57), .int (F 58), .ref (y + 42), .ref (y + 43), .ref (y + 44), .ref (y + 45), .int (F 63), .int (F 64)]) dX12_test_123 fX12_190 (hM6.1) (Nat.le_of_ble_eq_true rfl) rfl rfl rfl ?_
                    refine x_geq (G' := xup _ y (modO y (pF (upd F 36 (nI 12)) tn (p6 + 2) (((anO os s).2).1) sl en6 dd6 co6 op6))) rfl ?_
                    have hM108 := hM6.fld (pF (upd F 36 (nI 12)) tn (p6 + 2) (((anO os s).2).1) sl en6 dd6 co6 op6)
                    refine x_iconst dX12_test_126 ki_1 ?_
                    refine x_topi (y := bI true) rfl ?_
                    refine x_istore_n (ls' := [(1, .int (bI true)), (4, .int (bI (stB tp tn p3 21))), (3, .int (bI (stB tp tn p3 20))), (2, .int (nI 1)), (0, .ref y)]) dX12_test_127 (by decide) rfl ?_
                    refine x_goto (tgt := 199) dX12_test_128 (by decide) ?_
                    refine x_goto (tgt := 9) dX12_test_199 (by decide) ?_
                    refine x_perm (ls' := [(2, .int (nI 1)), (1, .int (bI true)), (0, .ref y)]) [3, 0, 4] rfl ?_
                    have hx := st_at (tp := tp) (n := tn) (by decide) xl_21 c79
                    have hp36 : p6 = p3 := w2.trans ((congrArg (skP tp tn) ((show (anO os s).2.2.1 = (anA os s).2.2.1 from ha3.2.1).trans (show (anA os s).2.2.1 = (anP 9 os s).2.2.1 from ha2.2.1))).trans z2.symm)
                    have hps : (anO os s).2.2.1 = s.2.1 := (show (anO os s).2.2.1 = (anA os s).2.2.1 from ha3.2.1).trans ((show (anA os s).2.2.1 = (anP 9 os s).2.2.1 from ha2.2.1).trans ha1.2.1)
                    have hnx : (nextP tp tn (anO os s).2).2.1 = p3 + 2 := by show atA tp tn (skP tp tn (anO os s).2.2.1) = _; rw [hps, ← z20]; exact hx.2
                    have hn : PR G0 _ y hl r sc A0 F wa sa tn tp sl 3 (dpt (11 :: (anO os s).1)) (11 :: (anO os s).1) (nextP tp tn (anO os s).2) := PRs.step (s' := nextP tp tn (anO os s).2) hM108 hf6 hK6 (by omega) (by omega) (fun q0 => ⟨by omega, by rw [hnx, hp36], w3, w4, w5, w6, w7, w8, w9⟩)
                    have hsk := sk_le (tp := tp) b1
                    rw [ts_o h0 (hwa.trans c74) (hwo.trans c79)] at hr
                    have hdd : dpt (anO os s).1 ≤ 10 := by have := ha3.2.2.2.2; have := ha2.2.2.2.2; have := ha1.2.2.2.2; unfold anO anA; unfold anA at *; omega
                    exact ih true _ _ _ (fun q0 => by omega) (fun q0 => by rw [hnx]; simp only [List.length_cons]; omega) (fun q0 o ho => by rcases List.mem_cons.mp ho with e1 | e1; omega; exact hm3 o e1) (fun q0 => by show dpt (anO os s).1 + 0 ≤ 10; omega) (Hb.next (hb3.wk (by rw [pnd_c (by decide)]; show 3 * (pnd (anO os s).1 + 1) + 3 ≤ _; omega))) hr hn
                  · exact absurd (c74.symm.trans c114) (by decide)
                · exact absurd (c74.symm.trans c95) (by decide)
        · subst c21
          rw [ts_w h0] at hr
          have hbw : Hb tn (3 * pnd os + 3) s := hb
          refine x_aload_n dX12_test_24 2 rfl ?_
          refine x_cVe (N := mX12_fact) (d' := 9) (mc := 0) (ms := 0) (cb := 0) (sb := 0) (As := []) (st := []) dX12_test_25 mX12_fact_v lX12_275 rfl rfl (hM1.1) rfl (by decide) (Nat.le_of_ble_eq_true rfl) (PR_fact (b := 0) hH (hq1.b0 h0) h0 (by decide) hbw (by omega) hdp2) rfl (sf := fun G2 => [.int (bI ((fcP tp tn os s).1))]) (fun _ => rfl) (fun G2 hq2 => ?_)
          obtain ⟨hf2, A2, p2, co2, en2, dd2, op2, hM2, hK2, hp2, hc2, hz2⟩ := id hq2
          have hT2 : TpE (A2 27) tp := by rw [hK2.1 27 (by decide) (by decide) (by decide)]; exact hT
          refine x_pc (pc' := 28) rfl ?_
          refine x_ifB_ne (tgt := 35) dX12_test_28 (by decide) (fun c28 => ?_) (fun c28 => ?_)
          · refine x_iconst dX12_test_35 ki_0 ?_
            refine x_topi (y := bI false) rfl ?_
            refine x_istore_n (ls' := [(1, .int (bI false)), (2, .int (nI 1)), (0, .ref y)]) dX12_test_36 (by decide) rfl ?_
            refine x_goto (tgt := 9) dX12_test_37 (by decide) ?_
            refine x_perm (ls' := [(2, .int (nI 1)), (1, .int (bI false)), (0, .ref y)]) [1, 0, 2] rfl ?_
            have hw9 : (!(fcP tp tn os s).1) = false := by rw [c28]; rfl
            rw [hw9] at hr
            have hfi := fc_inv (tp := tp) (n := tn) htn h0 hol2 hom2 hdp2 b1 hbw
            rw [hw9] at hfi
            exact ih false _ _ _ (fun q0 => by have := hfi.1 q0; have := (hfi.2 q0).1; omega) (fun q0 => (hfi.1 q0).2.1) (fun q0 => (hfi.1 q0).2.2.1) (fun q0 => (hfi.1 q0).2.2.2) hfi.2 hr hq2
          · refine x_iconst dX12_test_31 ki_1 ?_
            refine x_goto (tgt := 36) dX12_test_32 (by decide) ?_
            refine x_topi (y := bI true) rfl ?_
            refine x_istore_n (ls' := [(1, .int (bI true)), (2, .int (nI 1)), (0, .ref y)]) dX12_test_36 (by decide) rfl ?_
            refine x_goto (tgt := 9) dX12_test_37 (by decide) ?_
            refine x_perm (ls' := [(2, .int (nI 1)), (1, .int (bI true)), (0, .ref y)]) [1, 0, 2] rfl ?_
            have hw9 : (!(fcP tp tn os s).1) = true := by rw [c28]; rfl
            rw [hw9] at hr
            have hfi := fc_inv (tp := tp) (n := tn) htn h0 hol2 hom2 hdp2 b1 hbw
            rw [hw9] at hfi
            exact ih true _ _ _ (fun q0 => by have := hfi.1 q0; have := (hfi.2 q0).1; omega) (fun q0 => (hfi.1 q0).2.1) (fun q0 => (hfi.1 q0).2.2.1) (fun q0 => (hfi.1 q0).2.2.2) hfi.2 hr hq2
theorem PR_test {K : xG} {h y : Nat} {G0 G : xHp} {hl : xHl} {r : xRw} {sc : Nat × Nat × Int32} {A0 : Nat → Nat → Int32} {F : Nat → Int32} {wa sa : Nat → Int64} {tn : Nat} {tp : Nat → Nat} {sl b : Nat} {s : xPS} {os0 : List Nat} (hH : PH A0 tp tn sl) (hR : PR G0 G y hl r sc A0 F wa sa tn tp sl b 0 os0 s) (h0 : s.1 = 0) (hb : Hb tn 3 s) : xCall K mX12_test 10 0 0 [.ref y] h G (prQ G0 h y hl r sc A0 F wa sa tn tp sl 3 (dpt (tsM tp tn 401 true [] s).1) ((tsM tp tn 401 true [] s).1) ((tsM tp tn 401 true [] s).2)) := by
  refine x_entry (by decide) (ls := [(0, .ref y)]) rfl (Nat.le_of_ble_eq_true rfl) ?_
  obtain ⟨hT, hlt, htn, hs6⟩ := id hH
  obtain ⟨hf9, A9, p9, co9, en9, dd9, op9, hM9, hK9, hp9, hc9, hz9⟩ := id hR
  have hT9 : TpE (A9 27) tp := by rw [hK9.1 27 (by decide) (by decide) (by decide)]; exact hT
  obtain ⟨z1, z2, z3, z4, z5, z6, z7, z8, z9⟩ := hz9 h0
  refine x_aload_n dX12_test_0 0 rfl ?_
  refine x_iconst dX12_test_1 ki_0 ?_
  refine x_put (fs' := [.int (F 0), .ref (y + 1), .ref (y + 2), .ref (y + 3), .ref (y + 4), .ref (y + 5), .ref (y + 6), .ref (y + 7), .ref (y + 8), .ref (y + 9), .ref (y + 10), .ref (y + 11), .ref (y + 12), .ref (y + 13), .ref (y + 14), .ref (y + 15), .ref (y + 16), .ref (y + 17), .ref (y + 18), .ref (y + 19), .ref (y + 20), .ref (y + 21), .ref (y + 22), .ref (y + 23), .ref (y + 24), .ref (y + 25), .ref (y + 26), .int (nI tn), .int (nI p9), .int (nI ((s).1)), .int (nI sl), .int (F 31), .int (nI en9), .int (nI dd9), .int (nI co9), .int (nI 0), .int (nI 12), .ref (y + 27), .ref (y + 28), .ref (y + 29), .ref (y + 30), .ref (y + 31), .ref (y + 32), .ref (y + 33), .ref (y + 34), .ref (y + 35), .ref (y + 36), .ref (y + 37), .ref (y + 38), .int (F 49), .int (F 50), .int (F 51), .int (F 52), .int (F 53), .ref (y + 39), .ref (y + 40), .ref (y + 41), .int (F 57), .int (F 58), .ref (y + 42), .ref (y + 43), .ref (y + 44), .ref (y + 45), .int (F 63), .int (F 64)]) dX12_test_2 fX12_258 (hM9.1) (Nat.le_of_ble_eq_true rfl) rfl rfl rfl ?_
  refine x_geq (G' := xup _ y (modO y (pF (upd F 36 (nI 12)) tn p9 ((s).1) sl en9 dd9 co9 0))) rfl ?_
  have hM101 := hM9.fld (pF (upd F 36 (nI 12)) tn p9 ((s).1) sl en9 dd9 co9 0)
  refine x_iconst dX12_test_5 ki_1 ?_
  refine x_topi (y := bI true) rfl ?_
  refine x_istore_n (ls' := [(1, .int (bI true)), (0, .ref y)]) dX12_test_6 (by decide) rfl ?_
  refine x_iconst dX12_test_7 ki_1 ?_
  refine x_istore_n (ls' := [(2, .int (nI 1)), (1, .int (bI true)), (0, .ref y)]) dX12_test_8 (by decide) rfl ?_
  exact Md_test_loop hH 401 true [] s _ (fun q0 => by omega) (fun q0 => by simp) (fun q0 o ho => absurd ho (by simp)) (fun q0 => by show 0 ≤ 10; omega) (by show Hb tn (3 * 0 + 3) s; exact hb) rfl ⟨hf9, _, _, _, _, _, _, hM101, hK9, hp9, by omega, fun _ => ⟨z1, z2, z3, z4, z5, z6, rfl, (fun j hj => absurd hj (by simp)), z9⟩⟩
