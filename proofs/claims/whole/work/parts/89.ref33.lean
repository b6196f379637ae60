theorem kd_pos {tp : Nat → Nat} {n p : Nat} (h : p < n) : kdA tp n p ≠ 0 := by
  unfold kdA
  rw [if_neg (by omega)]
  by_cases e1 : isLw tp p = true
  · rw [if_pos e1]; decide
  · rw [if_neg e1]
    by_cases e2 : isDg tp p = true
    · rw [if_pos e2]; decide
    · rw [if_neg e2]; decide
theorem a3_1 {A0 : Nat → Nat → Int32} {i : Nat} {u v : Int32} {f : Nat → Int32} : setA (setA (setA A0 31 (upd (A0 31) i u)) 32 (upd (setA A0 31 (upd (A0 31) i u) 32) i v)) 33 f 31 i = u := by
  rw [setA_ne (by decide), setA_ne (by decide), setA_at, upd_at]
theorem a3_2 {A0 : Nat → Nat → Int32} {i : Nat} {v : Int32} {f g : Nat → Int32} : setA (setA A0 32 (upd g i v)) 33 f 32 i = v := by
  rw [setA_ne (by decide), setA_at, upd_at]
theorem a3_3 {A0 : Nat → Nat → Int32} {i : Nat} {v : Int32} {g : Nat → Int32} : setA A0 33 (upd g i v) 33 i = v := by
  rw [setA_at, upd_at]
theorem PRs_takes {K : xG} {h y : Nat} {G0 G : xHp} {hl : xHl} {r : xRw} {sc : Nat × Nat × Int32} {A0 : Nat → Nat → Int32} {F : Nat → Int32} {wa sa : Nat → Int64} {tn : Nat} {tp : Nat → Nat} {sl b de : Nat} {os : List Nat} {s : xPS} (hH : PH A0 tp tn sl) (hR : PRs G0 G y hl r sc A0 F wa sa tn tp sl b de os s) (h0 : s.1 = 0) (hp0 : s.2.1 ≤ tn) : xCall K mX12_takes 5 0 0 [.ref y, .ref (K.2.2.2.2.1 25)] h G (xEx (fun G' => PR G0 G' y hl r sc A0 F wa sa tn tp sl b de os (if isW tp tn s 2 = true then nextP tp tn s else s)) (fun _ => some (.int (bI (isW tp tn s 2)))) (fun _ => h) (fun G' => G')) := by
  refine x_entry (by decide) (ls := [(0, .ref y), (1, .ref (K.2.2.2.2.1 25))]) rfl (Nat.le_of_ble_eq_true rfl) ?_
  obtain ⟨hT, hlt, htn, hs6⟩ := id hH
  obtain ⟨hf9, A9, p9, co9, en9, dd9, op9, hM9, hK9, hp9, hc9, hz9⟩ := id hR
  have hT9 : TpE (A9 27) tp := by rw [hK9.1 27 (by decide) (by decide) (by decide)]; exact hT
  refine x_aload_n dX12_takes_0 0 rfl ?_
  refine x_cVe (N := mX12_blanks) (d' := 1) (mc := 0) (ms := 0) (cb := 0) (sb := 0) (As := []) (st := []) dX12_takes_1 mX12_blanks_v lX12_210 rfl rfl (hM9.1) rfl (by decide) (Nat.le_of_ble_eq_true rfl) (PR_blanks hH (PRs.to (fun _ => hp0) hR)) rfl (sf := fun G1 => []) (fun _ => rfl) (fun G1 hq1 => ?_)
  obtain ⟨hf1, A1, p1, co1, en1, dd1, op1, hM1, hK1, hp1, hc1, hz1⟩ := id hq1
  have hT1 : TpE (A1 27) tp := by rw [hK1.1 27 (by decide) (by decide) (by decide)]; exact hT
  obtain ⟨z1, z2, z3, z4, z5, z6, z7, z8, z9⟩ := hz1 h0
  have hw2 : isW tp tn s 2 = stB tp tn p1 25 := isW_at (by decide) (by decide) (by decide) wl_e2 h0 z2
  refine x_aload_n dX12_takes_4 0 rfl ?_
  refine x_aload_n dX12_takes_5 1 rfl ?_
  refine x_cV (N := mX12_stood) (d' := 4) (mc := 0) (ms := 0) (cb := 0) (sb := 0) (As := [.ref (K.2.2.2.2.1 25)]) (st := []) dX12_takes_6 mX12_stood_v lX12_213 rfl rfl (hM1.1) rfl (by decide) (Nat.le_of_ble_eq_true rfl) (Md_stood (i := 25) hT1 hlt htn hM1 (by decide) (by omega)) rfl (st1 := [.int (bI (stB tp tn p1 25))]) rfl ?_
  refine x_istore_n (ls' := [(2, .int (bI (stB tp tn p1 25))), (0, .ref y), (1, .ref (K.2.2.2.2.1 25))]) dX12_takes_9 (by decide) rfl ?_
  refine x_aload_n dX12_takes_10 1 rfl ?_
  refine x_dup dX12_takes_11 rfl ?_
  refine x_get (v := .int (nI p1)) dX12_takes_12 fX12_190 (hM1.1) rfl ?_
  refine x_pc (pc' := 15) rfl ?_
  refine x_iload_n dX12_takes_15 0 rfl ?_
  refine x_ifB_eq (tgt := 26) dX12_takes_16 (by decide) (fun c16 => ?_) (fun c16 => ?_)
  · refine x_iconst dX12_takes_26 ki_0 ?_
    refine x_iaddN dX12_takes_27 ?_
    refine x_put (fs' := [.int (F 0), .ref (y + 1), .ref (y + 2), .ref (y + 3), .ref (y + 4), .ref (y + 5), .ref (y + 6), .ref (y + 7), .ref (y + 8), .ref (y + 9), .ref (y + 10), .ref (y + 11), .ref (y + 12), .ref (y + 13), .ref (y + 14), .ref (y + 15), .ref (y + 16), .ref (y + 17), .ref (y + 18), .ref (y + 19), .ref (y + 20), .ref (y + 21), .ref (y + 22), .ref (y + 23), .ref (y + 24), .ref (y + 25), .ref (y + 26), .int (nI tn), .int (nI (p1 + 0)), .int (nI ((s).1)), .int (nI sl), .int (F 31), .int (nI en1), .int (nI dd1), .int (nI co1), .int (nI op1), .int (nI 12), .ref (y + 27), .ref (y + 28), .ref (y + 29), .ref (y + 30), .ref (y + 31), .ref (y + 32), .ref (y + 33), .ref (y + 34), .ref (y + 35), .ref (y + 36), .ref (y + 37), .ref (y + 38), .int (F 49), .int (F 50), .int (F 51), .int (F 52), .int (F 53), .ref (y + 39), .ref (y + 40), .ref (y + 41), .int (F 57), .int (F 58), .ref (y + 42), .ref (y + 43), .ref (y + 44), .ref (y + 45), .int (F 63), .int (F 64)]) dX12_takes_28 fX12_190 (hM1.1) (Nat.le_of_ble_eq_true rfl) rfl rfl rfl ?_
    refine x_geq (G' := xup _ y (modO y (pF (upd F 36 (nI 12)) tn (p1 + 0) ((s).1) sl en1 dd1 co1 op1))) rfl ?_
    have hM101 := hM1.fld (pF (upd F 36 (nI 12)) tn (p1 + 0) ((s).1) sl en1 dd1 co1 op1)
    refine x_iload_n dX12_takes_31 0 rfl ?_
    have hi2 : isW tp tn s 2 = false := hw2.trans c16
    have hn : PR G0 _ y hl r sc A0 F wa sa tn tp sl b de os s := PRs.to (fun _ => hp0) ⟨hf1, _, _, _, _, _, _, hM101, hK1, hp1, hc1, hz1⟩
    exact x_zret dX12_takes_32 rfl (by first | rfl | decide | exact bI_nar _) (xEx_i _ (by rw [if_neg (by rw [hi2]; decide)]; exact hn) (by rw [hi2, c16]) rfl rfl)
  · refine x_aload_n dX12_takes_19 2 rfl ?_
    refine x_cVS (i := 25) (N := mJ0_length_8abf5) (d' := 1) (mc := 0) (ms := 0) (cb := 0) (sb := 0) (As := []) (st := [.int (nI p1), .ref y]) (by decide) dX12_takes_20 mJ0_length_8abf5_v rfl lX12_201 rfl (by decide) (Nat.le_of_ble_eq_true rfl) (Str_length (by decide)) rfl (st1 := [.int (nI ((xs_byt 25).length)), .int (nI p1), .ref y]) rfl ?_
    refine x_goto (tgt := 27) dX12_takes_23 (by decide) ?_
    refine x_iaddN dX12_takes_27 ?_
    refine x_put (fs' := [.int (F 0), .ref (y + 1), .ref (y + 2), .ref (y + 3), .ref (y + 4), .ref (y + 5), .ref (y + 6), .ref (y + 7), .ref (y + 8), .ref (y + 9), .ref (y + 10), .ref (y + 11), .ref (y + 12), .ref (y + 13), .ref (y + 14), .ref (y + 15), .ref (y + 16), .ref (y + 17), .ref (y + 18), .ref (y + 19), .ref (y + 20), .ref (y + 21), .ref (y + 22), .ref (y + 23), .ref (y + 24), .ref (y + 25), .ref (y + 26), .int (nI tn), .int (nI (p1 + ((xs_byt 25).length))), .int (nI ((s).1)), .int (nI sl), .int (F 31), .int (nI en1), .int (nI dd1), .int (nI co1), .int (nI op1), .int (nI 12), .ref (y + 27), .ref (y + 28), .ref (y + 29), .ref (y + 30), .ref (y + 31), .ref (y + 32), .ref (y + 33), .ref (y + 34), .ref (y + 35), .ref (y + 36), .ref (y + 37), .ref (y + 38), .int (F 49), .int (F 50), .int (F 51), .int (F 52), .int (F 53), .ref (y + 39), .ref (y + 40), .ref (y + 41), .int (F 57), .int (F 58), .ref (y + 42), .ref (y + 43), .ref (y + 44), .ref (y + 45), .int (F 63), .int (F 64)]) dX12_takes_28 fX12_190 (hM1.1) (Nat.le_of_ble_eq_true rfl) rfl rfl rfl ?_
    refine x_geq (G' := xup _ y (modO y (pF (upd F 36 (nI 12)) tn (p1 + ((xs_byt 25).length)) ((s).1) sl en1 dd1 co1 op1))) rfl ?_
    have hM102 := hM1.fld (pF (upd F 36 (nI 12)) tn (p1 + ((xs_byt 25).length)) ((s).1) sl en1 dd1 co1 op1)
    refine x_iload_n dX12_takes_31 0 rfl ?_
    have hi2 : isW tp tn s 2 = true := hw2.trans c16
    have hx := st_at (tp := tp) (n := tn) (by decide) xl_25 c16
    have hnx : (nextP tp tn s).2.1 = p1 + 2 := by show atA tp tn (skP tp tn s.2.1) = _; rw [← z2]; exact hx.2
    have hn : PR G0 _ y hl r sc A0 F wa sa tn tp sl b de os (nextP tp tn s) := PRs.step (s' := nextP tp tn s) hM102 hf1 hK1 (by rw [xl_25]; omega) (by omega) (fun q0 => ⟨by rw [xl_25]; omega, by rw [hnx, xl_25], z3, z4, z5, z6, z7, z8, z9⟩)
    exact x_zret dX12_takes_32 rfl (by first | rfl | decide | exact bI_nar _) (xEx_i _ (by rw [if_pos hi2]; exact hn) (by rw [hi2, c16]) rfl rfl)
theorem PR_clause {K : xG} {h y : Nat} {G0 G : xHp} {hl : xHl} {r : xRw} {sc : Nat × Nat × Int32} {A0 : Nat → Nat → Int32} {F : Nat → Int32} {wa sa : Nat → Int64} {tn : Nat} {tp : Nat → Nat} {sl b : Nat} {os : List Nat} {s : xPS} {bf : Nat} (hH : PH A0 tp tn sl) (hR : PR G0 G y hl r sc A0 F wa sa tn tp sl b 0 os s) (h0 : s.1 = 0) (hb : Hb tn 0 s) (hbf : bf ≤ 12) : xCall K mX12_ruleClause 11 0 0 [.ref y, .int (nI bf)] h G (xEx (fun e : (Nat → Nat → Int32) × List Nat × xHp => PR G0 e.2.2 y hl r sc e.1 F wa sa tn tp sl 3 0 e.2.1 (rcP tp tn s bf) ∧ KpC A0 e.1 (12 * sl + bf) ∧ ((rcP tp tn s bf).1 = 0 → e.1 31 (12 * sl + bf) = nI (stE s.2.2.2).length ∧ e.1 32 (12 * sl + bf) = nI (stE (sumP tp tn (nextP tp tn s)).2.2.2).length ∧ e.1 33 (12 * sl + bf) = nI (stE (rcP tp tn s bf).2.2.2).length)) (fun _ => none) (fun _ => h) (fun e => e.2.2)) := by
  refine x_entry (by decide) (ls := [(0, .ref y), (1, .int (nI bf))]) rfl (Nat.le_of_ble_eq_true rfl) ?_
  obtain ⟨hT, hlt, htn, hs6⟩ := id hH
  have hp0 := (hb h0).1
  obtain ⟨hf9, A9, p9, co9, en9, dd9, op9, hM9, hK9, hp9, hc9, hz9⟩ := id hR
  have hT9 : TpE (A9 27) tp := by rw [hK9.1 27 (by decide) (by decide) (by decide)]; exact hT
  refine x_aload_n dX12_ruleClause_0 0 rfl ?_
  refine x_cVe (N := mX12_blanks) (d' := 1) (mc := 0) (ms := 0) (cb := 0) (sb := 0) (As := []) (st := []) dX12_ruleClause_1 mX12_blanks_v lX12_210 rfl rfl (hM9.1) rfl (by decide) (Nat.le_of_ble_eq_true rfl) (PR_blanks hH (hR.b0 (b' := 0) h0)) rfl (sf := fun G1 => []) (fun _ => rfl) (fun G1 hq1 => ?_)
  obtain ⟨hf1, A1, p1, co1, en1, dd1, op1, hM1, hK1, hp1, hc1, hz1⟩ := id hq1
  have hT1 : TpE (A1 27) tp := by rw [hK1.1 27 (by decide) (by decide) (by decide)]; exact hT
  obtain ⟨z1, z2, z3, z4, z5, z6, z7, z8, z9⟩ := hz1 h0
  have hw1 : isW tp tn s 1 = stB tp tn p1 24 := isW_at (by decide) (by decide) (by decide) wl_e1 h0 z2
  refine x_aload_n dX12_ruleClause_4 0 rfl ?_
  refine x_get (v := .int (nI p1)) dX12_ruleClause_5 fX12_190 (hM1.1) rfl ?_
  refine x_istore_n (ls' := [(2, .int (nI p1)), (0, .ref y), (1, .int (nI bf))]) dX12_ruleClause_8 (by decide) rfl ?_
  refine x_aload_n dX12_ruleClause_9 1 rfl ?_
  refine x_ldcwS 24 (by decide) rfl rfl dX12_ruleClause_10 ?_
  refine x_cV (N := mX12_stood) (d' := 4) (mc := 0) (ms := 0) (cb := 0) (sb := 0) (As := [.ref (K.2.2.2.2.1 24)]) (st := []) dX12_ruleClause_13 mX12_stood_v lX12_213 rfl rfl (hM1.1) rfl (by decide) (Nat.le_of_ble_eq_true rfl) (Md_stood (i := 24) hT1 hlt htn hM1 (by decide) (by omega)) rfl (st1 := [.int (bI (stB tp tn p1 24))]) rfl ?_
  refine x_ifB_ne (tgt := 26) dX12_ruleClause_16 (by decide) (fun c16 => ?_) (fun c16 => ?_)
  · refine x_pc (pc' := 26) rfl ?_
    refine x_iload_n dX12_ruleClause_26 2 rfl ?_
    refine x_bipush dX12_ruleClause_27 kb_12 ?_
    refine x_icmpN_ne (tgt := 39) dX12_ruleClause_29 (by decide) (by omega) (by omega) (fun c29 => ?_) (fun c29 => ?_)
    · refine x_aload_n dX12_ruleClause_39 1 rfl ?_
      refine x_dup dX12_ruleClause_40 rfl ?_
      refine x_get (v := .int (nI p1)) dX12_ruleClause_41 fX12_190 (hM1.1) rfl ?_
      refine x_iconst dX12_ruleClause_44 ki_4 ?_
      refine x_iaddN dX12_ruleClause_45 ?_
      refine x_put (fs' := [.int (F 0), .ref (y + 1), .ref (y + 2), .ref (y + 3), .ref (y + 4), .ref (y + 5), .ref (y + 6), .ref (y + 7), .ref (y + 8), .ref (y + 9), .ref (y + 10), .ref (y + 11), .ref (y + 12), .ref (y + 13), .ref (y + 14), .ref (y + 15), .ref (y + 16), .ref (y + 17), .ref (y + 18), .ref (y + 19), .ref (y + 20), .ref (y + 21), .ref (y + 22), .ref (y + 23), .ref (y + 24), .ref (y + 25), .ref (y + 26), .int (nI tn), .int (nI (p1 + 4)), .int (nI ((s).1)), .int (nI sl), .int (F 31), .int (nI en1), .int (nI dd1), .int (nI co1), .int (nI op1), .int (nI 12), .ref (y + 27), .ref (y + 28), .ref (y + 29), .ref (y + 30), .ref (y + 31), .ref (y + 32), .ref (y + 33), .ref (y + 34), .ref (y + 35), .ref (y + 36), .ref (y + 37), .ref (y + 38), .int (F 49), .int (F 50), .int (F 51), .int (F 52), .int (F 53), .ref (y + 39), .ref (y + 40), .ref (y + 41), .int (F 57), .int (F 58), .ref (y + 42), .ref (y + 43), .ref (y + 44), .ref (y + 45), .int (F 63), .int (F 64)]) dX12_ruleClause_46 fX12_190 (hM1.1) (Nat.le_of_ble_eq_true rfl) rfl rfl rfl ?_
      refine x_geq (G' := xup _ y (modO y (pF (upd F 36 (nI 12)) tn (p1 + 4) ((s).1) sl en1 dd1 co1 op1))) rfl ?_
      have hM101 := hM1.fld (pF (upd F 36 (nI 12)) tn (p1 + 4) ((s).1) sl en1 dd1 co1 op1)
      refine x_bipush dX12_ruleClause_49 kb_12 ?_
      refine x_pc (pc' := 51) rfl ?_
      refine x_aload_n dX12_ruleClause_51 1 rfl ?_
      refine x_get (v := .int (nI sl)) dX12_ruleClause_52 fX12_217 (hM101.1) rfl ?_
      refine x_imulN dX12_ruleClause_55 ?_
      refine x_iload_n dX12_ruleClause_56 2 rfl ?_
      refine x_iaddN dX12_ruleClause_57 ?_
      refine x_istore_n (ls' := [(3, .int (nI ((12 * sl) + bf))), (2, .int (nI p1)), (0, .ref y), (1, .int (nI bf))]) dX12_ruleClause_58 (by decide) rfl ?_
      refine x_aload_n dX12_ruleClause_59 2 rfl ?_
      refine x_get (v := .ref (y + 31)) dX12_ruleClause_60 fX12_105 (hM101.1) rfl ?_
      refine x_iload_n dX12_ruleClause_63 0 rfl ?_
      refine x_aload_n dX12_ruleClause_64 2 rfl ?_
      refine x_pc (pc' := 65) rfl ?_
      refine x_get (v := .int (nI en1)) dX12_ruleClause_65 fX12_220 (hM101.1) rfl ?_
      refine x_iastN (n := 72) (f := A1 31) dX12_ruleClause_68 (hM101.c31) (by omega) (by decide) ?_
      have hM102 := hM101.a31 (upd (A1 31) ((12 * sl) + bf) (nI en1))
      have hi1 : isW tp tn s 1 = true := hw1.trans c16
      have hx := st_at (tp := tp) (n := tn) (by decide) xl_24 c16
      have hnx : (nextP tp tn s).2.1 = p1 + 4 := by show atA tp tn (skP tp tn s.2.1) = _; rw [← z2]; exact hx.2
      have hn : PR G0 _ y hl r sc (setA A0 31 (upd (A0 31) (12 * sl + bf) (nI en1))) F wa sa tn tp sl 0 0 os (nextP tp tn s) := PRs.step (s' := nextP tp tn s) hM102 hf1 (hK1.st (by decide) (by decide) (by decide)) (by omega) (by omega) (fun q0 => ⟨by omega, by rw [hnx], z3, z4, z5, z6, z7, z8.st (by decide), z9.st (by decide) (by decide)⟩)
      have hH1 : PH (setA A0 31 (upd (A0 31) (12 * sl + bf) (nI en1))) tp tn sl := hH.st (by decide)
      have hb1 := Hb.next (tp := tp) hb
      have hb2 := Hb.sumP (tp := tp) hb1
      have hsm : sumL tp tn 400 none none (nextP tp tn s) = sumP tp tn (nextP tp tn s) := sum_eq htn (fun _ => (at_le (sk_le hp0).2).2.1)
      refine x_aload_n dX12_ruleClause_69 2 rfl ?_
      refine x_cVe (N := mX12_sum) (d' := 7) (mc := 0) (ms := 0) (cb := 0) (sb := 0) (As := []) (st := []) dX12_ruleClause_70 mX12_sum_v lX12_255 rfl rfl (hM102.1) rfl (by decide) (Nat.le_of_ble_eq_true rfl) (PR_sum (c0 := 0) hH1 hn (by decide) hb1) rfl (sf := fun G2 => []) (fun _ => rfl) (fun G2 hq2 => ?_)
      obtain ⟨hT, hlt, htn, hs6⟩ := id hH1
      obtain ⟨hf2, A2, p2, co2, en2, dd2, op2, hM2, hK2, hp2, hc2, hz2⟩ := id hq2
      have hT2 : TpE (A2 27) tp := by rw [hK2.1 27 (by decide) (by decide) (by decide)]; exact hT
      refine x_aload_n dX12_ruleClause_73 2 rfl ?_
      refine x_get (v := .ref (y + 32)) dX12_ruleClause_74 fX12_108 (hM2.1) rfl ?_
      refine x_iload_n dX12_ruleClause_77 0 rfl ?_
      refine x_aload_n dX12_ruleClause_78 2 rfl ?_
      refine x_get (v := .int (nI en2)) dX12_ruleClause_79 fX12_220 (hM2.1) rfl ?_
      refine x_iastN (n := 72) (f := A2 32) dX12_ruleClause_82 (hM2.c32) (by omega) (by decide) ?_
      have hM103 := hM2.a32 (upd (A2 32) ((12 * sl) + bf) (nI en2))
      have hn2 : PRs G0 _ y hl r sc (setA (setA A0 31 (upd (A0 31) (12 * sl + bf) (nI en1))) 32 (upd ((setA A0 31 (upd (A0 31) (12 * sl + bf) (nI en1))) 32) (12 * sl + bf) (nI en2))) F wa sa tn tp sl 1 0 os (sumP tp tn (nextP tp tn s)) := ⟨hf2, _, _, _, _, _, _, hM103, hK2.st (by decide) (by decide) (by decide), hp2, hc2, fun q0 => by obtain ⟨w1, w2, w3, w4, w5, w6, w7, w8, w9⟩ := hz2 q0; exact ⟨w1, w2, w3, w4, w5, w6, w7, w8.st (by decide), w9.st (by decide) (by decide)⟩⟩
      have hH2 : PH (setA (setA A0 31 (upd (A0 31) (12 * sl + bf) (nI en1))) 32 (upd ((setA A0 31 (upd (A0 31) (12 * sl + bf) (nI en1))) 32) (12 * sl + bf) (nI en2))) tp tn sl := hH1.st (by decide)
      refine x_pc (pc' := 83) rfl ?_
      refine x_aload_n dX12_ruleClause_83 2 rfl ?_
      refine x_get (v := .int (nI ((sumP tp tn (nextP tp tn s)).1))) dX12_ruleClause_84 fX12_187 (hM103.1) rfl ?_
      refine x_ifN_ne (tgt := 104) dX12_ruleClause_87 (by decide) (by omega) (fun c87 => ?_) (fun c87 => ?_)
      · refine x_aload_n dX12_ruleClause_104 2 rfl ?_
        refine x_get (v := .ref (y + 33)) dX12_ruleClause_105 fX12_111 (hM103.1) rfl ?_
        refine x_iload_n dX12_ruleClause_108 0 rfl ?_
        refine x_aload_n dX12_ruleClause_109 2 rfl ?_
        refine x_get (v := .int (nI en2)) dX12_ruleClause_110 fX12_220 (hM103.1) rfl ?_
        refine x_iastN (n := 72) (f := A2 33) dX12_ruleClause_113 (hM103.c33) (by omega) (by decide) ?_
        have hM104 := hM103.a33 (upd (A2 33) ((12 * sl) + bf) (nI en2))
        have hi2 : isW tp tn (sumL tp tn 400 none none (nextP tp tn s)) 2 = false := by rw [hsm]; exact isW_n c87
        have hn4 : PR G0 _ y hl r sc (setA (setA (setA A0 31 (upd (A0 31) (12 * sl + bf) (nI en1))) 32 (upd ((setA A0 31 (upd (A0 31) (12 * sl + bf) (nI en1))) 32) (12 * sl + bf) (nI en2))) 33 (upd ((setA (setA A0 31 (upd (A0 31) (12 * sl + bf) (nI en1))) 32 (upd ((setA A0 31 (upd (A0 31) (12 * sl + bf) (nI en1))) 32) (12 * sl + bf) (nI en2))) 33) (12 * sl + bf) (nI en2))) F wa sa tn tp sl 1 0 os (sumP tp tn (nextP tp tn s)) := ⟨hf2, _, _, _, _, _, _, hM104, (hK2.st (by decide) (by decide) (by decide)).st (by decide) (by decide) (by decide), hp2, hc2, fun q0 => absurd q0 c87⟩
        have hv : (putP (sumP tp tn (nextP tp tn s)) 15 0).1 = 0 → en2 = (stE (sumP tp tn (nextP tp tn s)).2.2.2).length ∧ en2 = (stE (putP (sumP tp tn (nextP tp tn s)) 15 0).2.2.2).length := fun q0 => absurd (putP_f.1.symm.trans q0) c87
        have hrc : rcP tp tn s bf = putP (sumP tp tn (nextP tp tn s)) 15 0 := by rw [rc_3 (bf := bf) hi1 (by omega) hi2, hsm]
        exact x_vret dX12_ruleClause_114 rfl (xEx_i ((setA (setA (setA A0 31 (upd (A0 31) (12 * sl + bf) (nI en1))) 32 (upd ((setA A0 31 (upd (A0 31) (12 * sl + bf) (nI en1))) 32) (12 * sl + bf) (nI en2))) 33 (upd ((setA (setA A0 31 (upd (A0 31) (12 * sl + bf) (nI en1))) 32 (upd ((setA A0 31 (upd (A0 31) (12 * sl + bf) (nI en1))) 32) (12 * sl + bf) (nI en2))) 33) (12 * sl + bf) (nI en2))), os, _) ⟨by rw [hrc]; exact (hn4.mk (by decide)).wk (by decide), ((KpC.rf.set (Or.inl rfl)).set (Or.inr (Or.inl rfl))).set (Or.inr (Or.inr rfl)), fun q0 => absurd (putP_f.1.symm.trans (hrc ▸ q0)) c87⟩ rfl rfl rfl)
      · refine x_aload_n dX12_ruleClause_90 2 rfl ?_
        refine x_ldcwS 25 (by decide) rfl rfl dX12_ruleClause_91 ?_
        refine x_cVe (N := mX12_takes) (d' := 5) (mc := 0) (ms := 0) (cb := 0) (sb := 0) (As := [.ref (K.2.2.2.2.1 25)]) (st := []) dX12_ruleClause_94 mX12_takes_v lX12_334 rfl rfl (hM103.1) rfl (by decide) (Nat.le_of_ble_eq_true rfl) (PRs_takes hH2 hn2 c87 (hb2 c87).1) rfl (sf := fun G3 => [.int (bI (isW tp tn (sumP tp tn (nextP tp tn s)) 2))]) (fun _ => rfl) (fun G3 hq3 => ?_)
        obtain ⟨hT, hlt, htn, hs6⟩ := id hH2
        have hsw : isW tp tn (sumL tp tn 400 none none (nextP tp tn s)) 2 = isW tp tn (sumP tp tn (nextP tp tn s)) 2 := by rw [hsm]
        obtain ⟨hf3, A3, p3, co3, en3, dd3, op3, hM3, hK3, hp3, hc3, hz3⟩ := id hq3
        have hT3 : TpE (A3 27) tp := by rw [hK3.1 27 (by decide) (by decide) (by decide)]; exact hT
        refine x_ifB_eq (tgt := 104) dX12_ruleClause_97 (by decide) (fun c97 => ?_) (fun c97 => ?_)
        · refine x_aload_n dX12_ruleClause_104 2 rfl ?_
          refine x_get (v := .ref (y + 33)) dX12_ruleClause_105 fX12_111 (hM3.1) rfl ?_
          refine x_iload_n dX12_ruleClause_108 0 rfl ?_
          refine x_pc (pc' := 109) rfl ?_
          refine x_aload_n dX12_ruleClause_109 2 rfl ?_
          refine x_get (v := .int (nI en3)) dX12_ruleClause_110 fX12_220 (hM3.1) rfl ?_
          refine x_iastN (n := 72) (f := A3 33) dX12_ruleClause_113 (hM3.c33) (by omega) (by decide) ?_
          have hM105 := hM3.a33 (upd (A3 33) ((12 * sl) + bf) (nI en3))
          have hi2 : isW tp tn (sumL tp tn 400 none none (nextP tp tn s)) 2 = false := hsw.trans c97
          have hS3 : (if isW tp tn (sumP tp tn (nextP tp tn s)) 2 = true then nextP tp tn (sumP tp tn (nextP tp tn s)) else sumP tp tn (nextP tp tn s)) = sumP tp tn (nextP tp tn s) := if_neg (by rw [c97]; decide)
          rw [hS3] at hf3 hz3
          have hM9x := hM105
          rw [hS3] at hM9x
          have hn4 : PR G0 _ y hl r sc (setA (setA (setA A0 31 (upd (A0 31) (12 * sl + bf) (nI en1))) 32 (upd ((setA A0 31 (upd (A0 31) (12 * sl + bf) (nI en1))) 32) (12 * sl + bf) (nI en2))) 33 (upd ((setA (setA A0 31 (upd (A0 31) (12 * sl + bf) (nI en1))) 32 (upd ((setA A0 31 (upd (A0 31) (12 * sl + bf) (nI en1))) 32) (12 * sl + bf) (nI en2))) 33) (12 * sl + bf) (nI en3))) F wa sa tn tp sl 1 0 os (sumP tp tn (nextP tp tn s)) := ⟨hf3, _, _, _, _, _, _, hM9x, hK3.st (by decide) (by decide) (by decide), hp3, hc3, fun q0 => by obtain ⟨w1, w2, w3, w4, w5, w6, w7, w8, w9⟩ := hz3 q0; exact ⟨w1, w2, w3, w4, w5, w6, w7, w8.st (by decide), w9.st (by decide) (by decide)⟩⟩
          have hrc : rcP tp tn s bf = putP (sumP tp tn (nextP tp tn s)) 15 0 := by rw [rc_3 (bf := bf) hi1 (by omega) hi2, hsm]
          have hqS : (rcP tp tn s bf).1 = 0 → (sumP tp tn (nextP tp tn s)).1 = 0 := fun q0 => putP_f.1.symm.trans (hrc ▸ q0)
          have hq2x : (rcP tp tn s bf).1 = 0 → (sumP tp tn (nextP tp tn s)).1 = 0 := fun _ => c87
          have v1 : (setA (setA (setA A0 31 (upd (A0 31) (12 * sl + bf) (nI en1))) 32 (upd ((setA A0 31 (upd (A0 31) (12 * sl + bf) (nI en1))) 32) (12 * sl + bf) (nI en2))) 33 (upd ((setA (setA A0 31 (upd (A0 31) (12 * sl + bf) (nI en1))) 32 (upd ((setA A0 31 (upd (A0 31) (12 * sl + bf) (nI en1))) 32) (12 * sl + bf) (nI en2))) 33) (12 * sl + bf) (nI en3))) 31 (12 * sl + bf) = nI en1 := a3_1
          have v2 : (setA (setA (setA A0 31 (upd (A0 31) (12 * sl + bf) (nI en1))) 32 (upd ((setA A0 31 (upd (A0 31) (12 * sl + bf) (nI en1))) 32) (12 * sl + bf) (nI en2))) 33 (upd ((setA (setA A0 31 (upd (A0 31) (12 * sl + bf) (nI en1))) 32 (upd ((setA A0 31 (upd (A0 31) (12 * sl + bf) (nI en1))) 32) (12 * sl + bf) (nI en2))) 33) (12 * sl + bf) (nI en3))) 32 (12 * sl + bf) = nI en2 := a3_2
          have v3 : (setA (setA (setA A0 31 (upd (A0 31) (12 * sl + bf) (nI en1))) 32 (upd ((setA A0 31 (upd (A0 31) (12 * sl + bf) (nI en1))) 32) (12 * sl + bf) (nI en2))) 33 (upd ((setA (setA A0 31 (upd (A0 31) (12 * sl + bf) (nI en1))) 32 (upd ((setA A0 31 (upd (A0 31) (12 * sl + bf) (nI en1))) 32) (12 * sl + bf) (nI en2))) 33) (12 * sl + bf) (nI en3))) 33 (12 * sl + bf) = nI en3 := a3_3
          exact x_vret dX12_ruleClause_114 rfl (xEx_i ((setA (setA (setA A0 31 (upd (A0 31) (12 * sl + bf) (nI en1))) 32 (upd ((setA A0 31 (upd (A0 31) (12 * sl + bf) (nI en1))) 32) (12 * sl + bf) (nI en2))) 33 (upd ((setA (setA A0 31 (upd (A0 31) (12 * sl + bf) (nI en1))) 32 (upd ((setA A0 31 (upd (A0 31) (12 * sl + bf) (nI en1))) 32) (12 * sl + bf) (nI en2))) 33) (12 * sl + bf) (nI en3))), os, _) ⟨by rw [hrc]; exact (hn4.mk (by decide)).wk (by decide), ((KpC.rf.set (Or.inl rfl)).set (Or.inr (Or.inl rfl))).set (Or.inr (Or.inr rfl)), fun q0 => ⟨v1.trans (congrArg nI z5), v2.trans (congrArg nI (hz2 c87).2.2.2.2.1), v3.trans (congrArg nI (by rw [hrc, stE_mk0 (by decide)]; exact (hz3 (hqS q0)).2.2.2.2.1))⟩⟩ rfl rfl rfl)
        · refine x_aload_n dX12_ruleClause_100 2 rfl ?_
          rw [if_pos c97] at hq3
          refine x_cVe (N := mX12_test) (d' := 10) (mc := 0) (ms := 0) (cb := 0) (sb := 0) (As := []) (st := []) dX12_ruleClause_101 mX12_test_v lX12_337 rfl rfl (hM3.1) rfl (by decide) (Nat.le_of_ble_eq_true rfl) (PR_test hH2 hq3 c87 (Hb.next (tp := tp) hb2)) rfl (sf := fun G4 => []) (fun _ => rfl) (fun G4 hq4 => ?_)
          obtain ⟨t1, t2⟩ := ts_test (tp := tp) htn (s := nextP tp tn (sumP tp tn (nextP tp tn s))) (fun q0 => (Hb.next (tp := tp) hb2 q0).1)
          have hq5 : PR G0 G4 y hl r sc (setA (setA A0 31 (upd (A0 31) (12 * sl + bf) (nI en1))) 32 (upd ((setA A0 31 (upd (A0 31) (12 * sl + bf) (nI en1))) 32) (12 * sl + bf) (nI en2))) F wa sa tn tp sl 3 0 ([]) (rdP tp tn 802 1 0 (nextP tp tn (sumP tp tn (nextP tp tn s)))) := hq4.ts t1.symm (fun q0 => by have e0 := t2 (t1.symm.trans q0); rw [e0]; exact ⟨rfl, rfl, rfl⟩)
          obtain ⟨hf4, A4, p4, co4, en4, dd4, op4, hM4, hK4, hp4, hc4, hz4⟩ := id hq5
          have hT4 : TpE (A4 27) tp := by rw [hK4.1 27 (by decide) (by decide) (by decide)]; exact hT
          refine x_aload_n dX12_ruleClause_104 2 rfl ?_
          refine x_pc (pc' := 105) rfl ?_
          refine x_get (v := .ref (y + 33)) dX12_ruleClause_105 fX12_111 (hM4.1) rfl ?_
          refine x_iload_n dX12_ruleClause_108 0 rfl ?_
          refine x_aload_n dX12_ruleClause_109 2 rfl ?_
          refine x_get (v := .int (nI en4)) dX12_ruleClause_110 fX12_220 (hM4.1) rfl ?_
          refine x_iastN (n := 72) (f := A4 33) dX12_ruleClause_113 (hM4.c33) (by omega) (by decide) ?_
          have hM106 := hM4.a33 (upd (A4 33) ((12 * sl) + bf) (nI en4))
          have hi2 : isW tp tn (sumL tp tn 400 none none (nextP tp tn s)) 2 = true := hsw.trans c97
          have hn4 : PR G0 _ y hl r sc (setA (setA (setA A0 31 (upd (A0 31) (12 * sl + bf) (nI en1))) 32 (upd ((setA A0 31 (upd (A0 31) (12 * sl + bf) (nI en1))) 32) (12 * sl + bf) (nI en2))) 33 (upd ((setA (setA A0 31 (upd (A0 31) (12 * sl + bf) (nI en1))) 32 (upd ((setA A0 31 (upd (A0 31) (12 * sl + bf) (nI en1))) 32) (12 * sl + bf) (nI en2))) 33) (12 * sl + bf) (nI en4))) F wa sa tn tp sl 3 0 ([]) (rdP tp tn 802 1 0 (nextP tp tn (sumP tp tn (nextP tp tn s)))) := ⟨hf4, _, _, _, _, _, _, hM106, hK4.st (by decide) (by decide) (by decide), hp4, hc4, fun q0 => by obtain ⟨w1, w2, w3, w4, w5, w6, w7, w8, w9⟩ := hz4 q0; exact ⟨w1, w2, w3, w4, w5, w6, w7, w8.st (by decide), w9.st (by decide) (by decide)⟩⟩
          have hrc : rcP tp tn s bf = putP ((rdP tp tn 802 1 0 (nextP tp tn (sumP tp tn (nextP tp tn s))))) 16 0 := by rw [rc_2 (bf := bf) hi1 (by omega) hi2, hsm]
          have hqS : (rcP tp tn s bf).1 = 0 → ((rdP tp tn 802 1 0 (nextP tp tn (sumP tp tn (nextP tp tn s))))).1 = 0 := fun q0 => putP_f.1.symm.trans (hrc ▸ q0)
          have hq2x : (rcP tp tn s bf).1 = 0 → (sumP tp tn (nextP tp tn s)).1 = 0 := fun _ => c87
          have v1 : (setA (setA (setA A0 31 (upd (A0 31) (12 * sl + bf) (nI en1))) 32 (upd ((setA A0 31 (upd (A0 31) (12 * sl + bf) (nI en1))) 32) (12 * sl + bf) (nI en2))) 33 (upd ((setA (setA A0 31 (upd (A0 31) (12 * sl + bf) (nI en1))) 32 (upd ((setA A0 31 (upd (A0 31) (12 * sl + bf) (nI en1))) 32) (12 * sl + bf) (nI en2))) 33) (12 * sl + bf) (nI en4))) 31 (12 * sl + bf) = nI en1 := a3_1
          have v2 : (setA (setA (setA A0 31 (upd (A0 31) (12 * sl + bf) (nI en1))) 32 (upd ((setA A0 31 (upd (A0 31) (12 * sl + bf) (nI en1))) 32) (12 * sl + bf) (nI en2))) 33 (upd ((setA (setA A0 31 (upd (A0 31) (12 * sl + bf) (nI en1))) 32 (upd ((setA A0 31 (upd (A0 31) (12 * sl + bf) (nI en1))) 32) (12 * sl + bf) (nI en2))) 33) (12 * sl + bf) (nI en4))) 32 (12 * sl + bf) = nI en2 := a3_2
          have v3 : (setA (setA (setA A0 31 (upd (A0 31) (12 * sl + bf) (nI en1))) 32 (upd ((setA A0 31 (upd (A0 31) (12 * sl + bf) (nI en1))) 32) (12 * sl + bf) (nI en2))) 33 (upd ((setA (setA A0 31 (upd (A0 31) (12 * sl + bf) (nI en1))) 32 (upd ((setA A0 31 (upd (A0 31) (12 * sl + bf) (nI en1))) 32) (12 * sl + bf) (nI en2))) 33) (12 * sl + bf) (nI en4))) 33 (12 * sl + bf) = nI en4 := a3_3
          exact x_vret dX12_ruleClause_114 rfl (xEx_i ((setA (setA (setA A0 31 (upd (A0 31) (12 * sl + bf) (nI en1))) 32 (upd ((setA A0 31 (upd (A0 31) (12 * sl + bf) (nI en1))) 32) (12 * sl + bf) (nI en2))) 33 (upd ((setA (setA A0 31 (upd (A0 31) (12 * sl + bf) (nI en1))) 32 (upd ((setA A0 31 (upd (A0 31) (12 * sl + bf) (nI en1))) 32) (12 * sl + bf) (nI en2))) 33) (12 * sl + bf) (nI en4))), [], _) ⟨by rw [hrc]; exact (hn4.mk (by decide)).wk (by decide), ((KpC.rf.set (Or.inl rfl)).set (Or.inr (Or.inl rfl))).set (Or.inr (Or.inr rfl)), fun q0 => ⟨v1.trans (congrArg nI z5), v2.trans (congrArg nI (hz2 c87).2.2.2.2.1), v3.trans (congrArg nI (by rw [hrc, stE_mk0 (by decide)]; exact (hz4 (hqS q0)).2.2.2.2.1))⟩⟩ rfl rfl rfl)
    · refine x_aload_n dX12_ruleClause_32 1 rfl ?_
      refine x_iconst dX12_ruleClause_33 ki_4 ?_
      refine x_iload_n dX12_ruleClause_34 0 rfl ?_
      refine x_cVe (N := mX12_fails) (d' := 0) (mc := 0) (ms := 0) (cb := 0) (sb := 0) (As := [.int (nI 4), .int (nI p1)]) (st := []) dX12_ruleClause_35 mX12_fails_v lX12_226 rfl rfl (hM1.1) rfl (by decide) (Nat.le_of_ble_eq_true rfl) (PR_failsX (b := 0) (de := 0) (os := os) hM1 htn hf1 hK1 hp1 hc1 (fun q0 => z2) (by decide)) rfl (sf := fun G2 => []) (fun _ => rfl) (fun G2 hq2 => ?_)
      have hi1 : isW tp tn s 1 = true := hw1.trans c16
      exact x_vret dX12_ruleClause_38 rfl (xEx_i (A0, os, G2) ⟨by rw [rc_1 hi1 (by omega)]; exact hq2.wk (by decide), KpC.rf, fun q0 => absurd (by rw [rc_1 hi1 (by omega)] at q0; exact q0) failP_ne⟩ rfl rfl rfl)
  · refine x_pc (pc' := 19) rfl ?_
    refine x_aload_n dX12_ruleClause_19 1 rfl ?_
    refine x_iconst dX12_ruleClause_20 ki_0 ?_
    refine x_iload_n dX12_ruleClause_21 0 rfl ?_
    refine x_cVe (N := mX12_fails) (d' := 0) (mc := 0) (ms := 0) (cb := 0) (sb := 0) (As := [.int (nI 0), .int (nI p1)]) (st := []) dX12_ruleClause_22 mX12_fails_v lX12_226 rfl rfl (hM1.1) rfl (by decide) (Nat.le_of_ble_eq_true rfl) (PR_failsX (b := 0) (de := 0) (os := os) hM1 htn hf1 hK1 hp1 hc1 (fun q0 => z2) (by decide)) rfl (sf := fun G2 => []) (fun _ => rfl) (fun G2 hq2 => ?_)
    have hi1 : isW tp tn s 1 = false := hw1.trans c16
    exact x_vret dX12_ruleClause_25 rfl (xEx_i (A0, os, G2) ⟨by rw [rc_0 hi1]; exact hq2.wk (by decide), KpC.rf, fun q0 => absurd (by rw [rc_0 hi1] at q0; exact q0) failP_ne⟩ rfl rfl rfl)
theorem PR_goesOn {K : xG} {h y : Nat} {G0 G : xHp} {hl : xHl} {r : xRw} {sc : Nat × Nat × Int32} {A0 : Nat → Nat → Int32} {F : Nat → Int32} {wa sa : Nat → Int64} {tn : Nat} {tp : Nat → Nat} {sl b de : Nat} {os : List Nat} {s : xPS} (hH : PH A0 tp tn sl) (hR : PR G0 G y hl r sc A0 F wa sa tn tp sl b de os s) (hb5 : b < 100) : xCall K mX12_goesOn 2 0 0 [.ref y] h G (xEx (fun G' => if isS tp tn s.1 s.2.1 59 = true then PR G0 G' y hl r sc A0 F wa sa tn tp sl b de os (nextP tp tn s) else PE G0 G' y hl r sc A0 F wa sa tn sl (eeR tp tn s)) (fun _ => some (.int (bI (isS tp tn s.1 s.2.1 59)))) (fun _ => h) (fun G' => G')) := by
  refine x_entry (by decide) (ls := [(0, .ref y)]) rfl (Nat.le_of_ble_eq_true rfl) ?_
  obtain ⟨hT, hlt, htn, hs6⟩ := id hH
  obtain ⟨hf9, A9, p9, co9, en9, dd9, op9, hM9, hK9, hp9, hc9, hz9⟩ := id hR
  have hT9 : TpE (A9 27) tp := by rw [hK9.1 27 (by decide) (by decide) (by decide)]; exact hT
  refine x_aload_n dX12_goesOn_0 0 rfl ?_
  refine x_cVe (N := mX12_blanks) (d' := 1) (mc := 0) (ms := 0) (cb := 0) (sb := 0) (As := []) (st := []) dX12_goesOn_1 mX12_blanks_v lX12_210 rfl rfl (hM9.1) rfl (by decide) (Nat.le_of_ble_eq_true rfl) (PR_blanks hH hR) rfl (sf := fun G1 => []) (fun _ => rfl) (fun G1 hq1 => ?_)
  obtain ⟨hf1, A1, p1, co1, en1, dd1, op1, hM1, hK1, hp1, hc1, hz1⟩ := id hq1
  have hT1 : TpE (A1 27) tp := by rw [hK1.1 27 (by decide) (by decide) (by decide)]; exact hT
  have hp1b : p1 ≤ tn + 2 := hp1
  refine x_aload_n dX12_goesOn_4 0 rfl ?_
  refine x_get (v := .int (nI ((s).1))) dX12_goesOn_5 fX12_187 (hM1.1) rfl ?_
  refine x_ifN_ne (tgt := 40) dX12_goesOn_8 (by decide) (by omega) (fun c8 => ?_) (fun c8 => ?_)
  · refine x_aload_n dX12_goesOn_40 0 rfl ?_
    refine x_get (v := .int (nI ((s).1))) dX12_goesOn_41 fX12_187 (hM1.1) rfl ?_
    refine x_ifN_ne (tgt := 62) dX12_goesOn_44 (by decide) (by omega) (fun c44 => ?_) (fun c44 => ?_)
    · refine x_iconst dX12_goesOn_62 ki_0 ?_
      refine x_pc (pc' := 63) rfl ?_
      refine x_istore_n (ls' := [(1, .int (nI 0)), (0, .ref y)]) dX12_goesOn_63 (by decide) rfl ?_
      refine x_aload_n dX12_goesOn_64 1 rfl ?_
      refine x_dup dX12_goesOn_65 rfl ?_
      refine x_get (v := .int (nI p1)) dX12_goesOn_66 fX12_190 (hM1.1) rfl ?_
      refine x_iconst dX12_goesOn_69 ki_1 ?_
      refine x_iaddN dX12_goesOn_70 ?_
      refine x_put (fs' := [.int (F 0), .ref (y + 1), .ref (y + 2), .ref (y + 3), .ref (y + 4), .ref (y + 5), .ref (y + 6), .ref (y + 7), .ref (y + 8), .ref (y + 9), .ref (y + 10), .ref (y + 11), .ref (y + 12), .ref (y + 13), .ref (y + 14), .ref (y + 15), .ref (y + 16), .ref (y + 17), .ref (y + 18), .ref (y + 19), .ref (y + 20), .ref (y + 21), .ref (y + 22), .ref (y + 23), .ref (y + 24), .ref (y + 25), .ref (y + 26), .int (nI tn), .int (nI (p1 + 1)), .int (nI ((s).1)), .int (nI sl), .int (F 31), .int (nI en1), .int (nI dd1), .int (nI co1), .int (nI op1), .int (nI 12), .ref (y + 27), .ref (y + 28), .ref (y + 29), .ref (y + 30), .ref (y + 31), .ref (y + 32), .ref (y + 33), .ref (y + 34), .ref (y + 35), .ref (y + 36), .ref (y + 37), .ref (y + 38), .int (F 49), .int (F 50), .int (F 51), .int (F 52), .int (F 53), .ref (y + 39), .ref (y + 40), .ref (y + 41), .int (F 57), .int (F 58), .ref (y + 42), .ref (y + 43), .ref (y + 44), .ref (y + 45), .int (F 63), .int (F 64)]) dX12_goesOn_71 fX12_190 (hM1.1) (Nat.le_of_ble_eq_true rfl) rfl rfl rfl ?_
      refine x_geq (G' := xup _ y (modO y (pF (upd F 36 (nI 12)) tn (p1 + 1) ((s).1) sl en1 dd1 co1 op1))) rfl ?_
      have hM101 := hM1.fld (pF (upd F 36 (nI 12)) tn (p1 + 1) ((s).1) sl en1 dd1 co1 op1)
      refine x_iload_n dX12_goesOn_74 0 rfl ?_
      have hS : isS tp tn s.1 s.2.1 59 = false := isS_n c8
      have hee : eeR tp tn s = s := by unfold eeR; rw [ee_bad c8]
      exact x_zret dX12_goesOn_75 rfl (by first | rfl | decide | exact bI_nar _) (xEx_i _ (by rw [if_neg (by rw [hS]; decide), hee]; exact ⟨hf1, _, _, _, _, _, _, hM101, hK1, fun q0 => absurd q0 c8⟩) (by rw [hS]; rfl) rfl rfl)
    · exact absurd c44 c8
  · have h0 : s.1 = 0 := c8
    obtain ⟨z1, z2, z3, z4, z5, z6, z7, z8, z9⟩ := hz1 h0
    refine x_aload_n dX12_goesOn_11 0 rfl ?_
    refine x_get (v := .int (nI p1)) dX12_goesOn_12 fX12_190 (hM1.1) rfl ?_
    refine x_aload_n dX12_goesOn_15 0 rfl ?_
    refine x_get (v := .int (nI tn)) dX12_goesOn_16 fX12_159 (hM1.1) rfl ?_
    refine x_pc (pc' := 19) rfl ?_
    refine x_icmpN_ge (tgt := 40) dX12_goesOn_19 (by decide) (by omega) (by omega) (fun c19 => ?_) (fun c19 => ?_)
    · refine x_aload_n dX12_goesOn_40 0 rfl ?_
      refine x_get (v := .int (nI ((s).1))) dX12_goesOn_41 fX12_187 (hM1.1) rfl ?_
      refine x_ifN_ne (tgt := 62) dX12_goesOn_44 (by decide) (by omega) (fun c44 => ?_) (fun c44 => ?_)
      · exact absurd h0 c44
      · refine x_aload_n dX12_goesOn_47 0 rfl ?_
        refine x_get (v := .int (nI p1)) dX12_goesOn_48 fX12_190 (hM1.1) rfl ?_
        refine x_aload_n dX12_goesOn_51 0 rfl ?_
        refine x_get (v := .int (nI tn)) dX12_goesOn_52 fX12_159 (hM1.1) rfl ?_
        refine x_icmpN_ge (tgt := 62) dX12_goesOn_55 (by decide) (by omega) (by omega) (fun c55 => ?_) (fun c55 => ?_)
        · refine x_iconst dX12_goesOn_62 ki_0 ?_
          refine x_pc (pc' := 63) rfl ?_
          refine x_istore_n (ls' := [(1, .int (nI 0)), (0, .ref y)]) dX12_goesOn_63 (by decide) rfl ?_
          refine x_aload_n dX12_goesOn_64 1 rfl ?_
          refine x_dup dX12_goesOn_65 rfl ?_
          refine x_get (v := .int (nI p1)) dX12_goesOn_66 fX12_190 (hM1.1) rfl ?_
          refine x_iconst dX12_goesOn_69 ki_1 ?_
          refine x_iaddN dX12_goesOn_70 ?_
          refine x_put (fs' := [.int (F 0), .ref (y + 1), .ref (y + 2), .ref (y + 3), .ref (y + 4), .ref (y + 5), .ref (y + 6), .ref (y + 7), .ref (y + 8), .ref (y + 9), .ref (y + 10), .ref (y + 11), .ref (y + 12), .ref (y + 13), .ref (y + 14), .ref (y + 15), .ref (y + 16), .ref (y + 17), .ref (y + 18), .ref (y + 19), .ref (y + 20), .ref (y + 21), .ref (y + 22), .ref (y + 23), .ref (y + 24), .ref (y + 25), .ref (y + 26), .int (nI tn), .int (nI (p1 + 1)), .int (nI ((s).1)), .int (nI sl), .int (F 31), .int (nI en1), .int (nI dd1), .int (nI co1), .int (nI op1), .int (nI 12), .ref (y + 27), .ref (y + 28), .ref (y + 29), .ref (y + 30), .ref (y + 31), .ref (y + 32), .ref (y + 33), .ref (y + 34), .ref (y + 35), .ref (y + 36), .ref (y + 37), .ref (y + 38), .int (F 49), .int (F 50), .int (F 51), .int (F 52), .int (F 53), .ref (y + 39), .ref (y + 40), .ref (y + 41), .int (F 57), .int (F 58), .ref (y + 42), .ref (y + 43), .ref (y + 44), .ref (y + 45), .int (F 63), .int (F 64)]) dX12_goesOn_71 fX12_190 (hM1.1) (Nat.le_of_ble_eq_true rfl) rfl rfl rfl ?_
          refine x_geq (G' := xup _ y (modO y (pF (upd F 36 (nI 12)) tn (p1 + 1) ((s).1) sl en1 dd1 co1 op1))) rfl ?_
          have hM102 := hM1.fld (pF (upd F 36 (nI 12)) tn (p1 + 1) ((s).1) sl en1 dd1 co1 op1)
          refine x_iload_n dX12_goesOn_74 0 rfl ?_
          have hkd : kdA tp tn (skP tp tn s.2.1) = 0 := kd_end (by omega)
          have hS : isS tp tn s.1 s.2.1 59 = false := isS_f (fun q0 => by omega)
          have hee : eeR tp tn s = s := by unfold eeR eeP; rw [if_pos ⟨h0, hkd⟩]; exact Prod.ext h0.symm rfl
          exact x_zret dX12_goesOn_75 rfl (by first | rfl | decide | exact bI_nar _) (xEx_i _ (by rw [if_neg (by rw [hS]; decide), hee]; exact ⟨hf1, _, _, _, _, _, _, hM102, hK1, fun q0 => z9⟩) (by rw [hS]; rfl) rfl rfl)
        · exact absurd c19 (by omega)
    · refine x_aload_n dX12_goesOn_22 0 rfl ?_
      refine x_cV (N := mX12_sign) (d' := 0) (mc := 0) (ms := 0) (cb := 0) (sb := 0) (As := []) (st := []) dX12_goesOn_23 mX12_sign_v lX12_193 rfl rfl (hM1.1) rfl (by decide) (Nat.le_of_ble_eq_true rfl) (Md_sign hT1 hlt htn hM1 (by omega)) rfl (st1 := [.int (sgV tp tn p1)]) rfl ?_
      refine x_bipush dX12_goesOn_26 kb_59 ?_
      refine x_icmp_eq (x := sgV tp tn p1) (y := nI 59) (tgt := 40) dX12_goesOn_28 (by decide) (fun c28 => ?_) (fun c28 => ?_)
      · refine x_aload_n dX12_goesOn_40 0 rfl ?_
        refine x_get (v := .int (nI ((s).1))) dX12_goesOn_41 fX12_187 (hM1.1) rfl ?_
        refine x_ifN_ne (tgt := 62) dX12_goesOn_44 (by decide) (by omega) (fun c44 => ?_) (fun c44 => ?_)
        · exact absurd h0 c44
        · refine x_aload_n dX12_goesOn_47 0 rfl ?_
          refine x_get (v := .int (nI p1)) dX12_goesOn_48 fX12_190 (hM1.1) rfl ?_
          refine x_pc (pc' := 51) rfl ?_
          refine x_aload_n dX12_goesOn_51 0 rfl ?_
          refine x_get (v := .int (nI tn)) dX12_goesOn_52 fX12_159 (hM1.1) rfl ?_
          refine x_icmpN_ge (tgt := 62) dX12_goesOn_55 (by decide) (by omega) (by omega) (fun c55 => ?_) (fun c55 => ?_)
          · exact absurd c19 (by omega)
          · refine x_iconst dX12_goesOn_58 ki_1 ?_
            refine x_goto (tgt := 63) dX12_goesOn_59 (by decide) ?_
            refine x_istore_n (ls' := [(1, .int (nI 1)), (0, .ref y)]) dX12_goesOn_63 (by decide) rfl ?_
            refine x_aload_n dX12_goesOn_64 1 rfl ?_
            refine x_dup dX12_goesOn_65 rfl ?_
            refine x_get (v := .int (nI p1)) dX12_goesOn_66 fX12_190 (hM1.1) rfl ?_
            refine x_iconst dX12_goesOn_69 ki_1 ?_
            refine x_pc (pc' := 70) rfl ?_
            refine x_iaddN dX12_goesOn_70 ?_
            refine x_put (fs' := [.int (F 0), .ref (y + 1), .ref (y + 2), .ref (y + 3), .ref (y + 4), .ref (y + 5), .ref (y + 6), .ref (y + 7), .ref (y + 8), .ref (y + 9), .ref (y + 10), .ref (y + 11), .ref (y + 12), .ref (y + 13), .ref (y + 14), .ref (y + 15), .ref (y + 16), .ref (y + 17), .ref (y + 18), .ref (y + 19), .ref (y + 20), .ref (y + 21), .ref (y + 22), .ref (y + 23), .ref (y + 24), .ref (y + 25), .ref (y + 26), .int (nI tn), .int (nI (p1 + 1)), .int (nI ((s).1)), .int (nI sl), .int (F 31), .int (nI en1), .int (nI dd1), .int (nI co1), .int (nI op1), .int (nI 12), .ref (y + 27), .ref (y + 28), .ref (y + 29), .ref (y + 30), .ref (y + 31), .ref (y + 32), .ref (y + 33), .ref (y + 34), .ref (y + 35), .ref (y + 36), .ref (y + 37), .ref (y + 38), .int (F 49), .int (F 50), .int (F 51), .int (F 52), .int (F 53), .ref (y + 39), .ref (y + 40), .ref (y + 41), .int (F 57), .int (F 58), .ref (y + 42), .ref (y + 43), .ref (y + 44), .ref (y + 45), .int (F 63), .int (F 64)]) dX12_goesOn_71 fX12_190 (hM1.1) (Nat.le_of_ble_eq_true rfl) rfl rfl rfl ?_
            refine x_geq (G' := xup _ y (modO y (pF (upd F 36 (nI 12)) tn (p1 + 1) ((s).1) sl en1 dd1 co1 op1))) rfl ?_
            have hM103 := hM1.fld (pF (upd F 36 (nI 12)) tn (p1 + 1) ((s).1) sl en1 dd1 co1 op1)
            refine x_iload_n dX12_goesOn_74 0 rfl ?_
            have hs59 := isS_sg (c := 59) h0 z2 hlt (by decide)
            have hS := hs59.mpr c28
            have hx := sg_at (tp := tp) (n := tn) hlt (c := 59) (by decide) c28
            have hnx : (nextP tp tn s).2.1 = p1 + 1 := by show atA tp tn (skP tp tn s.2.1) = _; rw [← z2]; exact hx.2
            have hn : PR G0 _ y hl r sc A0 F wa sa tn tp sl b de os (nextP tp tn s) := PRs.step (s' := nextP tp tn s) hM103 hf1 hK1 (by omega) (by omega) (fun q0 => ⟨by omega, by rw [hnx], z3, z4, z5, z6, z7, z8, z9⟩)
            exact x_zret dX12_goesOn_75 rfl (by first | rfl | decide | exact bI_nar _) (xEx_i _ (by rw [if_pos hS]; exact hn) (by rw [hS]; rfl) rfl rfl)
      · refine x_aload_n dX12_goesOn_31 0 rfl ?_
        refine x_iconst dX12_goesOn_32 ki_0 ?_
        refine x_aload_n dX12_goesOn_33 0 rfl ?_
        refine x_get (v := .int (nI p1)) dX12_goesOn_34 fX12_190 (hM1.1) rfl ?_
        refine x_cVe (N := mX12_fails) (d' := 0) (mc := 0) (ms := 0) (cb := 0) (sb := 0) (As := [.int (nI 0), .int (nI p1)]) (st := []) dX12_goesOn_37 mX12_fails_v lX12_226 rfl rfl (hM1.1) rfl (by decide) (Nat.le_of_ble_eq_true rfl) (Md_fails hM1 hf1) rfl (sf := fun G2 => []) (fun _ => rfl) (fun G2 hN2 => ?_)
        refine x_pc (pc' := 40) rfl ?_
        refine x_aload_n dX12_goesOn_40 0 rfl ?_
        refine x_get (v := .int (nI (flt s.1 0 p1))) dX12_goesOn_41 fX12_187 (hN2.1) rfl ?_
        refine x_ifN_ne (tgt := 62) dX12_goesOn_44 (by decide) (by have := flt_lt (c := 0) (b := p1) hf1 (by decide) (by omega); omega) (fun c44 => ?_) (fun c44 => ?_)
        · refine x_iconst dX12_goesOn_62 ki_0 ?_
          refine x_istore_n (ls' := [(1, .int (nI 0)), (0, .ref y)]) dX12_goesOn_63 (by decide) rfl ?_
          refine x_aload_n dX12_goesOn_64 1 rfl ?_
          refine x_dup dX12_goesOn_65 rfl ?_
          refine x_get (v := .int (nI p1)) dX12_goesOn_66 fX12_190 (hN2.1) rfl ?_
          refine x_iconst dX12_goesOn_69 ki_1 ?_
          refine x_iaddN dX12_goesOn_70 ?_
          refine x_pc (pc' := 71) rfl ?_
          refine x_put (fs' := [.int (F 0), .ref (y + 1), .ref (y + 2), .ref (y + 3), .ref (y + 4), .ref (y + 5), .ref (y + 6), .ref (y + 7), .ref (y + 8), .ref (y + 9), .ref (y + 10), .ref (y + 11), .ref (y + 12), .ref (y + 13), .ref (y + 14), .ref (y + 15), .ref (y + 16), .ref (y + 17), .ref (y + 18), .ref (y + 19), .ref (y + 20), .ref (y + 21), .ref (y + 22), .ref (y + 23), .ref (y + 24), .ref (y + 25), .ref (y + 26), .int (nI tn), .int (nI (p1 + 1)), .int (nI (flt s.1 0 p1)), .int (nI sl), .int (F 31), .int (nI en1), .int (nI dd1), .int (nI co1), .int (nI op1), .int (nI 12), .ref (y + 27), .ref (y + 28), .ref (y + 29), .ref (y + 30), .ref (y + 31), .ref (y + 32), .ref (y + 33), .ref (y + 34), .ref (y + 35), .ref (y + 36), .ref (y + 37), .ref (y + 38), .int (F 49), .int (F 50), .int (F 51), .int (F 52), .int (F 53), .ref (y + 39), .ref (y + 40), .ref (y + 41), .int (F 57), .int (F 58), .ref (y + 42), .ref (y + 43), .ref (y + 44), .ref (y + 45), .int (F 63), .int (F 64)]) dX12_goesOn_71 fX12_190 (hN2.1) (Nat.le_of_ble_eq_true rfl) rfl rfl rfl ?_
          refine x_geq (G' := xup _ y (modO y (pF (upd F 36 (nI 12)) tn (p1 + 1) (flt s.1 0 p1) sl en1 dd1 co1 op1))) rfl ?_
          have hM104 := hN2.fld (pF (upd F 36 (nI 12)) tn (p1 + 1) (flt s.1 0 p1) sl en1 dd1 co1 op1)
          refine x_iload_n dX12_goesOn_74 0 rfl ?_
          have hs59 := isS_sg (c := 59) h0 z2 hlt (by decide)
          have hS : isS tp tn s.1 s.2.1 59 = false := by rcases hq0 : isS tp tn s.1 s.2.1 59 with _ | _; rfl; exact absurd (hs59.mp hq0) c28
          have hkd : ¬ kdA tp tn (skP tp tn s.2.1) = 0 := fun q0 => by rw [← z2] at q0; exact kd_pos c19 q0
          have hee : (eeR tp tn s).1 = flt s.1 0 p1 := by show eeP tp tn s.1 s.2.1 = _; unfold eeP; rw [if_neg (fun q0 => hkd q0.2)]; unfold flP flt; rw [if_pos h0, if_pos h0, z2]
          have hfl := flt_lt (c := 0) (b := p1) hf1 (by decide) (by omega)
          exact x_zret dX12_goesOn_75 rfl (by first | rfl | decide | exact bI_nar _) (xEx_i _ (by rw [if_neg (by rw [hS]; decide)]; exact ⟨by rw [hee]; exact hfl, _, _, _, _, _, _, by rw [hee]; exact hM104, hK1, fun q0 => absurd (hee.symm.trans q0) (by unfold flt; rw [if_pos h0]; omega)⟩) (by rw [hS]; rfl) rfl rfl)
        · exact absurd c44 (by unfold flt; rw [if_pos h0]; omega)
