theorem Md_term_loop {K : xG} {h y : Nat} {G0 : xHp} {hl : xHl} {r : xRw} {sc : Nat × Nat × Int32} {A0 : Nat → Nat → Int32} {F : Nat → Int32} {wa sa : Nat → Int64} {tn : Nat} {tp : Nat → Nat} {sl de : Nat} {os : List Nat} {RR : xPS} {bb c0 : Nat} (hH : PH A0 tp tn sl) (hbb : 1 ≤ bb) : ∀ (j : Nat) (s : xPS) (G1 : xHp), (s.1 = 0 → tn - s.2.1 ≤ j) → Hb tn (c0 + 3) s → trmL tp tn j s = RR → PRs G0 G1 y hl r sc A0 F wa sa tn tp sl bb de os s → xV K mX12_term 6 0 0 h G1 8 [(0, .ref y)] [] (prsQ G0 h y hl r sc A0 F wa sa tn tp sl bb de os RR) := by
  obtain ⟨hT, hlt, htn, hs6⟩ := id hH
  intro j
  induction j with
  | zero =>
    intro s G1 hj hb hr hq1
    have hr0 : s = RR := hr
    obtain ⟨hf1, A1, p1, co1, en1, dd1, op1, hM1, hK1, hp1, hc1, hz1⟩ := id hq1
    have hT1 : TpE (A1 27) tp := by rw [hK1.1 27 (by decide) (by decide) (by decide)]; exact hT
    refine x_aload_n dX12_term_8 0 rfl ?_
    refine x_get (v := .int (nI ((s).1))) dX12_term_9 fX12_187 (hM1.1) rfl ?_
    refine x_ifN_ne (tgt := 100) dX12_term_12 (by decide) (by omega) (fun c12 => ?_) (fun c12 => ?_)
    · exact x_vret dX12_term_100 rfl (xEx_i G1 (by rw [← hr0]; exact hq1) rfl rfl rfl)
    · obtain ⟨z1, z2, z3⟩ := hz1 c12
      obtain ⟨b1, b2, b3⟩ := hb c12
      have hj2 := hj c12
      have hsk := sk_le (tp := tp) b1
      refine x_aload_n dX12_term_15 0 rfl ?_
      refine x_cV (N := mX12_sign) (d' := 0) (mc := 0) (ms := 0) (cb := 0) (sb := 0) (As := []) (st := []) dX12_term_16 mX12_sign_v lX12_193 rfl rfl (hM1.1) rfl (by decide) (Nat.le_of_ble_eq_true rfl) (Md_sign hT1 hlt htn hM1 (by omega)) rfl (st1 := [.int (sgV tp tn p1)]) rfl ?_
      refine x_bipush dX12_term_19 kb_42 ?_
      refine x_icmp_eq (x := sgV tp tn p1) (y := nI 42) (tgt := 42) dX12_term_21 (by decide) (fun c21 => ?_) (fun c21 => ?_)
      · exact absurd (sgV_c (by decide) hlt c21).1 (by omega)
      · refine x_aload_n dX12_term_24 0 rfl ?_
        refine x_cV (N := mX12_sign) (d' := 0) (mc := 0) (ms := 0) (cb := 0) (sb := 0) (As := []) (st := []) dX12_term_25 mX12_sign_v lX12_193 rfl rfl (hM1.1) rfl (by decide) (Nat.le_of_ble_eq_true rfl) (Md_sign hT1 hlt htn hM1 (by omega)) rfl (st1 := [.int (sgV tp tn p1)]) rfl ?_
        refine x_pc (pc' := 28) rfl ?_
        refine x_bipush dX12_term_28 kb_47 ?_
        refine x_icmp_eq (x := sgV tp tn p1) (y := nI 47) (tgt := 42) dX12_term_30 (by decide) (fun c30 => ?_) (fun c30 => ?_)
        · exact absurd (sgV_c (by decide) hlt c30).1 (by omega)
        · refine x_aload_n dX12_term_33 0 rfl ?_
          refine x_cV (N := mX12_sign) (d' := 0) (mc := 0) (ms := 0) (cb := 0) (sb := 0) (As := []) (st := []) dX12_term_34 mX12_sign_v lX12_193 rfl rfl (hM1.1) rfl (by decide) (Nat.le_of_ble_eq_true rfl) (Md_sign hT1 hlt htn hM1 (by omega)) rfl (st1 := [.int (sgV tp tn p1)]) rfl ?_
          refine x_bipush dX12_term_37 kb_37 ?_
          refine x_icmp_ne (x := sgV tp tn p1) (y := nI 37) (tgt := 100) dX12_term_39 (by decide) (fun c39 => ?_) (fun c39 => ?_)
          · exact x_vret dX12_term_100 rfl (xEx_i G1 (by rw [← hr0]; exact hq1) rfl rfl rfl)
          · exact absurd (sgV_c (by decide) hlt c39).1 (by omega)
  | succ j ih =>
    intro s G1 hj hb hr hq1
    obtain ⟨hf1, A1, p1, co1, en1, dd1, op1, hM1, hK1, hp1, hc1, hz1⟩ := id hq1
    have hT1 : TpE (A1 27) tp := by rw [hK1.1 27 (by decide) (by decide) (by decide)]; exact hT
    refine x_aload_n dX12_term_8 0 rfl ?_
    refine x_get (v := .int (nI ((s).1))) dX12_term_9 fX12_187 (hM1.1) rfl ?_
    refine x_ifN_ne (tgt := 100) dX12_term_12 (by decide) (by omega) (fun c12 => ?_) (fun c12 => ?_)
    · exact x_vret dX12_term_100 rfl (xEx_i G1 (by rw [← hr, trmL_f c12]; exact hq1) rfl rfl rfl)
    · obtain ⟨z1, z2, z3, z4, z5, z6, z7, z8, z9⟩ := hz1 c12
      obtain ⟨b1, b2, b3⟩ := hb c12
      have hj2 := hj c12
      refine x_aload_n dX12_term_15 0 rfl ?_
      refine x_cV (N := mX12_sign) (d' := 0) (mc := 0) (ms := 0) (cb := 0) (sb := 0) (As := []) (st := []) dX12_term_16 mX12_sign_v lX12_193 rfl rfl (hM1.1) rfl (by decide) (Nat.le_of_ble_eq_true rfl) (Md_sign hT1 hlt htn hM1 (by omega)) rfl (st1 := [.int (sgV tp tn p1)]) rfl ?_
      refine x_bipush dX12_term_19 kb_42 ?_
      refine x_icmp_eq (x := sgV tp tn p1) (y := nI 42) (tgt := 42) dX12_term_21 (by decide) (fun c21 => ?_) (fun c21 => ?_)
      · refine x_aload_n dX12_term_42 0 rfl ?_
        refine x_cV (N := mX12_sign) (d' := 0) (mc := 0) (ms := 0) (cb := 0) (sb := 0) (As := []) (st := []) dX12_term_43 mX12_sign_v lX12_193 rfl rfl (hM1.1) rfl (by decide) (Nat.le_of_ble_eq_true rfl) (Md_sign hT1 hlt htn hM1 (by omega)) rfl (st1 := [.int (sgV tp tn p1)]) rfl ?_
        refine x_pc (pc' := 46) rfl ?_
        refine x_bipush dX12_term_46 kb_42 ?_
        refine x_icmp_ne (x := sgV tp tn p1) (y := nI 42) (tgt := 56) dX12_term_48 (by decide) (fun c48 => ?_) (fun c48 => ?_)
        · exact absurd c21 c48
        · refine x_bipush dX12_term_51 kb_13 ?_
          refine x_goto (tgt := 72) dX12_term_53 (by decide) ?_
          refine x_istore_n (ls' := [(1, .int (nI 13)), (0, .ref y)]) dX12_term_72 (by decide) rfl ?_
          refine x_aload_n dX12_term_73 1 rfl ?_
          refine x_dup dX12_term_74 rfl ?_
          refine x_get (v := .int (nI p1)) dX12_term_75 fX12_190 (hM1.1) rfl ?_
          refine x_iconst dX12_term_78 ki_1 ?_
          refine x_iaddN dX12_term_79 ?_
          refine x_pc (pc' := 80) rfl ?_
          refine x_put (fs' := [.int (F 0), .ref (y + 1), .ref (y + 2), .ref (y + 3), .ref (y + 4), .ref (y + 5), .ref (y + 6), .ref (y + 7), .ref (y + 8), .ref (y + 9), .ref (y + 10), .ref (y + 11), .ref (y + 12), .ref (y + 13), .ref (y + 14), .ref (y + 15), .ref (y + 16), .ref (y + 17), .ref (y + 18), .ref (y + 19), .ref (y + 20), .ref (y + 21), .ref (y + 22), .ref (y + 23), .ref (y + 24), .ref (y + 25), .ref (y + 26), .int (nI tn), .int (nI (p1 + 1)), .int (nI ((s).1)), .int (nI sl), .int (F 31), .int (nI en1), .int (nI dd1), .int (nI co1), .int (nI op1), .int (nI 12), .ref (y + 27), .ref (y + 28), .ref (y + 29), .ref (y + 30), .ref (y + 31), .ref (y + 32), .ref (y + 33), .ref (y + 34), .ref (y + 35), .ref (y + 36), .ref (y + 37), .ref (y + 38), .int (F 49), .int (F 50), .int (F 51), .int (F 52), .int (F 53), .ref (y + 39), .ref (y + 40), .ref (y + 41), .int (F 57), .int (F 58), .ref (y + 42), .ref (y + 43), .ref (y + 44), .ref (y + 45), .int (F 63), .int (F 64)]) dX12_term_80 fX12_190 (hM1.1) (Nat.le_of_ble_eq_true rfl) rfl rfl rfl ?_
          refine x_geq (G' := xup _ y (modO y (pF (upd F 36 (nI 12)) tn (p1 + 1) ((s).1) sl en1 dd1 co1 op1))) rfl ?_
          have hM101 := hM1.fld (pF (upd F 36 (nI 12)) tn (p1 + 1) ((s).1) sl en1 dd1 co1 op1)
          obtain ⟨y1, y2, y3⟩ := stp_y (c := 42) (k := 4) c12 z2 hlt (by decide) rfl c21
          have hn : PR G0 _ y hl r sc A0 F wa sa tn tp sl 0 de os (nextP tp tn s) := PRs.step (s' := nextP tp tn s) hM101 hf1 hK1 (by omega) (by omega) (fun q0 => ⟨by omega, by rw [y2], z3, z4, z5, z6, z7, z8, z9⟩)
          refine x_aload_n dX12_term_83 1 rfl ?_
          refine x_cVe (N := mX12_value) (d' := 5) (mc := 0) (ms := 0) (cb := 0) (sb := 0) (As := []) (st := []) dX12_term_84 mX12_value_v lX12_249 rfl rfl (hM101.1) rfl (by decide) (Nat.le_of_ble_eq_true rfl) (PR_value hH hn (by decide) (Hb.len htn (Hb.next hb))) rfl (sf := fun G2 => []) (fun _ => rfl) (fun G2 hq2 => ?_)
          obtain ⟨hf2, A2, p2, co2, en2, dd2, op2, hM2, hK2, hp2, hc2, hz2⟩ := id hq2
          have hT2 : TpE (A2 27) tp := by rw [hK2.1 27 (by decide) (by decide) (by decide)]; exact hT
          refine x_aload_n dX12_term_87 1 rfl ?_
          refine x_iload_n dX12_term_88 0 rfl ?_
          refine x_iconst dX12_term_89 ki_0 ?_
          refine x_cVe (N := mX12_entry) (d' := 0) (mc := 0) (ms := 0) (cb := 0) (sb := 0) (As := [.int (nI 13), .int (nI 0)]) (st := []) dX12_term_90 mX12_entry_v lX12_242 rfl rfl (hM2.1) rfl (by decide) (Nat.le_of_ble_eq_true rfl) (PR_entry (c := 4) hH hq2 (Hb.len htn (Hb.val (Hb.next hb))) (by decide)) rfl (sf := fun G3 => []) (fun _ => rfl) (fun G3 hq3 => ?_)
          obtain ⟨hf3, A3, p3, co3, en3, dd3, op3, hM3, hK3, hp3, hc3, hz3⟩ := id hq3
          have hT3 : TpE (A3 27) tp := by rw [hK3.1 27 (by decide) (by decide) (by decide)]; exact hT
          refine x_aload_n dX12_term_93 1 rfl ?_
          refine x_cVe (N := mX12_blanks) (d' := 1) (mc := 0) (ms := 0) (cb := 0) (sb := 0) (As := []) (st := []) dX12_term_94 mX12_blanks_v lX12_210 rfl rfl (hM3.1) rfl (by decide) (Nat.le_of_ble_eq_true rfl) (PR_blanks hH hq3) rfl (sf := fun G4 => []) (fun _ => rfl) (fun G4 hq4 => ?_)
          obtain ⟨hf4, A4, p4, co4, en4, dd4, op4, hM4, hK4, hp4, hc4, hz4⟩ := id hq4
          have hT4 : TpE (A4 27) tp := by rw [hK4.1 27 (by decide) (by decide) (by decide)]; exact hT
          refine x_goto (tgt := 8) dX12_term_97 (by decide) ?_
          refine x_perm (ls' := [(0, .ref y)]) [1] rfl ?_
          exact ih _ _ (fun q0 => trm_fu y2 hj2 z2 b1 q0) (Hb.put (Hb.val (Hb.next hb))) (by rw [← hr]; exact (trmL_s y1 (by decide) (by decide)).symm) (hq4.wk hbb)
      · refine x_aload_n dX12_term_24 0 rfl ?_
        refine x_cV (N := mX12_sign) (d' := 0) (mc := 0) (ms := 0) (cb := 0) (sb := 0) (As := []) (st := []) dX12_term_25 mX12_sign_v lX12_193 rfl rfl (hM1.1) rfl (by decide) (Nat.le_of_ble_eq_true rfl) (Md_sign hT1 hlt htn hM1 (by omega)) rfl (st1 := [.int (sgV tp tn p1)]) rfl ?_
        refine x_pc (pc' := 28) rfl ?_
        refine x_bipush dX12_term_28 kb_47 ?_
        refine x_icmp_eq (x := sgV tp tn p1) (y := nI 47) (tgt := 42) dX12_term_30 (by decide) (fun c30 => ?_) (fun c30 => ?_)
        · refine x_aload_n dX12_term_42 0 rfl ?_
          refine x_cV (N := mX12_sign) (d' := 0) (mc := 0) (ms := 0) (cb := 0) (sb := 0) (As := []) (st := []) dX12_term_43 mX12_sign_v lX12_193 rfl rfl (hM1.1) rfl (by decide) (Nat.le_of_ble_eq_true rfl) (Md_sign hT1 hlt htn hM1 (by omega)) rfl (st1 := [.int (sgV tp tn p1)]) rfl ?_
          refine x_bipush dX12_term_46 kb_42 ?_
          refine x_icmp_ne (x := sgV tp tn p1) (y := nI 42) (tgt := 56) dX12_term_48 (by decide) (fun c48 => ?_) (fun c48 => ?_)
          · refine x_aload_n dX12_term_56 0 rfl ?_
            refine x_cV (N := mX12_sign) (d' := 0) (mc := 0) (ms := 0) (cb := 0) (sb := 0) (As := []) (st := []) dX12_term_57 mX12_sign_v lX12_193 rfl rfl (hM1.1) rfl (by decide) (Nat.le_of_ble_eq_true rfl) (Md_sign hT1 hlt htn hM1 (by omega)) rfl (st1 := [.int (sgV tp tn p1)]) rfl ?_
            refine x_bipush dX12_term_60 kb_47 ?_
            refine x_icmp_ne (x := sgV tp tn p1) (y := nI 47) (tgt := 70) dX12_term_62 (by decide) (fun c62 => ?_) (fun c62 => ?_)
            · exact absurd c30 c62
            · refine x_pc (pc' := 65) rfl ?_
              refine x_bipush dX12_term_65 kb_14 ?_
              refine x_goto (tgt := 72) dX12_term_67 (by decide) ?_
              refine x_istore_n (ls' := [(1, .int (nI 14)), (0, .ref y)]) dX12_term_72 (by decide) rfl ?_
              refine x_aload_n dX12_term_73 1 rfl ?_
              refine x_dup dX12_term_74 rfl ?_
              refine x_get (v := .int (nI p1)) dX12_term_75 fX12_190 (hM1.1) rfl ?_
              refine x_iconst dX12_term_78 ki_1 ?_
              refine x_iaddN dX12_term_79 ?_
              refine x_put (fs' := [.int (F 0), .ref (y + 1), .ref (y + 2), .ref (y + 3), .ref (y + 4), .ref (y + 5), .ref (y + 6), .ref (y + 7), .ref (y + 8), .ref (y + 9), .ref (y + 10), .ref (y + 11), .ref (y + 12), .ref (y + 13), .ref (y + 14), .ref (y + 15), .ref (y + 16), .ref (y + 17), .ref (y + 18), .ref (y + 19), .ref (y + 20), .ref (y + 21), .ref (y + 22), .ref (y + 23), .ref (y + 24), .ref (y + 25), .ref (y + 26), .int (nI tn), .int (nI (p1 + 1)), .int (nI ((s).1)), .int (nI sl), .int (F 31), .int (nI en1), .int (nI dd1), .int (nI co1), .int (nI op1), .int (nI 12), .ref (y + 27), .ref (y + 28), .ref (y + 29), .ref (y + 30), .ref (y + 31), .ref (y + 32), .ref (y + 33), .ref (y + 34), .ref (y + 35), .ref (y + 36), .ref (y + 37), .ref (y + 38), .int (F 49), .int (F 50), .int (F 51), .int (F 52), .int (F 53), .ref (y + 39), .ref (y + 40), .ref (y + 41), .int (F 57), .int (F 58), .ref (y + 42), .ref (y + 43), .ref (y + 44), .ref (y + 45), .int (F 63), .int (F 64)]) dX12_term_80 fX12_190 (hM1.1) (Nat.le_of_ble_eq_true rfl) rfl rfl rfl ?_
              refine x_geq (G' := xup _ y (modO y (pF (upd F 36 (nI 12)) tn (p1 + 1) ((s).1) sl en1 dd1 co1 op1))) rfl ?_
              have hM102 := hM1.fld (pF (upd F 36 (nI 12)) tn (p1 + 1) ((s).1) sl en1 dd1 co1 op1)
              obtain ⟨y1, y2, y3⟩ := stp_y (c := 47) (k := 5) c12 z2 hlt (by decide) rfl c30
              have hn : PR G0 _ y hl r sc A0 F wa sa tn tp sl 0 de os (nextP tp tn s) := PRs.step (s' := nextP tp tn s) hM102 hf1 hK1 (by omega) (by omega) (fun q0 => ⟨by omega, by rw [y2], z3, z4, z5, z6, z7, z8, z9⟩)
              refine x_aload_n dX12_term_83 1 rfl ?_
              refine x_pc (pc' := 84) rfl ?_
              refine x_cVe (N := mX12_value) (d' := 5) (mc := 0) (ms := 0) (cb := 0) (sb := 0) (As := []) (st := []) dX12_term_84 mX12_value_v lX12_249 rfl rfl (hM102.1) rfl (by decide) (Nat.le_of_ble_eq_true rfl) (PR_value hH hn (by decide) (Hb.len htn (Hb.next hb))) rfl (sf := fun G2 => []) (fun _ => rfl) (fun G2 hq2 => ?_)
              obtain ⟨hf2, A2, p2, co2, en2, dd2, op2, hM2, hK2, hp2, hc2, hz2⟩ := id hq2
              have hT2 : TpE (A2 27) tp := by rw [hK2.1 27 (by decide) (by decide) (by decide)]; exact hT
              refine x_aload_n dX12_term_87 1 rfl ?_
              refine x_iload_n dX12_term_88 0 rfl ?_
              refine x_iconst dX12_term_89 ki_0 ?_
              refine x_cVe (N := mX12_entry) (d' := 0) (mc := 0) (ms := 0) (cb := 0) (sb := 0) (As := [.int (nI 14), .int (nI 0)]) (st := []) dX12_term_90 mX12_entry_v lX12_242 rfl rfl (hM2.1) rfl (by decide) (Nat.le_of_ble_eq_true rfl) (PR_entry (c := 5) hH hq2 (Hb.len htn (Hb.val (Hb.next hb))) (by decide)) rfl (sf := fun G3 => []) (fun _ => rfl) (fun G3 hq3 => ?_)
              obtain ⟨hf3, A3, p3, co3, en3, dd3, op3, hM3, hK3, hp3, hc3, hz3⟩ := id hq3
              have hT3 : TpE (A3 27) tp := by rw [hK3.1 27 (by decide) (by decide) (by decide)]; exact hT
              refine x_aload_n dX12_term_93 1 rfl ?_
              refine x_cVe (N := mX12_blanks) (d' := 1) (mc := 0) (ms := 0) (cb := 0) (sb := 0) (As := []) (st := []) dX12_term_94 mX12_blanks_v lX12_210 rfl rfl (hM3.1) rfl (by decide) (Nat.le_of_ble_eq_true rfl) (PR_blanks hH hq3) rfl (sf := fun G4 => []) (fun _ => rfl) (fun G4 hq4 => ?_)
              obtain ⟨hf4, A4, p4, co4, en4, dd4, op4, hM4, hK4, hp4, hc4, hz4⟩ := id hq4
              have hT4 : TpE (A4 27) tp := by rw [hK4.1 27 (by decide) (by decide) (by decide)]; exact hT
              refine x_goto (tgt := 8) dX12_term_97 (by decide) ?_
              refine x_perm (ls' := [(0, .ref y)]) [1] rfl ?_
              exact ih _ _ (fun q0 => trm_fu y2 hj2 z2 b1 q0) (Hb.put (Hb.val (Hb.next hb))) (by rw [← hr]; exact (trmL_s y1 (by decide) (by decide)).symm) (hq4.wk hbb)
          · exact absurd c48 c21
        · refine x_aload_n dX12_term_33 0 rfl ?_
          refine x_cV (N := mX12_sign) (d' := 0) (mc := 0) (ms := 0) (cb := 0) (sb := 0) (As := []) (st := []) dX12_term_34 mX12_sign_v lX12_193 rfl rfl (hM1.1) rfl (by decide) (Nat.le_of_ble_eq_true rfl) (Md_sign hT1 hlt htn hM1 (by omega)) rfl (st1 := [.int (sgV tp tn p1)]) rfl ?_
          refine x_bipush dX12_term_37 kb_37 ?_
          refine x_icmp_ne (x := sgV tp tn p1) (y := nI 37) (tgt := 100) dX12_term_39 (by decide) (fun c39 => ?_) (fun c39 => ?_)
          · exact x_vret dX12_term_100 rfl (xEx_i G1 (by rw [← hr, trmL_o hlt z2 (fun q0 => c21 (sgV_i q0.1 q0.2)) (fun q0 => c30 (sgV_i q0.1 q0.2)) (fun q0 => c39 (sgV_i q0.1 q0.2))]; exact hq1) rfl rfl rfl)
          · refine x_aload_n dX12_term_42 0 rfl ?_
            refine x_cV (N := mX12_sign) (d' := 0) (mc := 0) (ms := 0) (cb := 0) (sb := 0) (As := []) (st := []) dX12_term_43 mX12_sign_v lX12_193 rfl rfl (hM1.1) rfl (by decide) (Nat.le_of_ble_eq_true rfl) (Md_sign hT1 hlt htn hM1 (by omega)) rfl (st1 := [.int (sgV tp tn p1)]) rfl ?_
            refine x_bipush dX12_term_46 kb_42 ?_
            refine x_icmp_ne (x := sgV tp tn p1) (y := nI 42) (tgt := 56) dX12_term_48 (by decide) (fun c48 => ?_) (fun c48 => ?_)
            · refine x_pc (pc' := 56) rfl ?_
              refine x_aload_n dX12_term_56 0 rfl ?_
              refine x_cV (N := mX12_sign) (d' := 0) (mc := 0) (ms := 0) (cb := 0) (sb := 0) (As := []) (st := []) dX12_term_57 mX12_sign_v lX12_193 rfl rfl (hM1.1) rfl (by decide) (Nat.le_of_ble_eq_true rfl) (Md_sign hT1 hlt htn hM1 (by omega)) rfl (st1 := [.int (sgV tp tn p1)]) rfl ?_
              refine x_bipush dX12_term_60 kb_47 ?_
              refine x_icmp_ne (x := sgV tp tn p1) (y := nI 47) (tgt := 70) dX12_term_62 (by decide) (fun c62 => ?_) (fun c62 => ?_)
              · refine x_bipush dX12_term_70 kb_15 ?_
                refine x_istore_n (ls' := [(1, .int (nI 15)), (0, .ref y)]) dX12_term_72 (by decide) rfl ?_
                refine x_aload_n dX12_term_73 1 rfl ?_
                refine x_dup dX12_term_74 rfl ?_
                refine x_get (v := .int (nI p1)) dX12_term_75 fX12_190 (hM1.1) rfl ?_
                refine x_iconst dX12_term_78 ki_1 ?_
                refine x_pc (pc' := 79) rfl ?_
                refine x_iaddN dX12_term_79 ?_
                refine x_put (fs' := [.int (F 0), .ref (y + 1), .ref (y + 2), .ref (y + 3), .ref (y + 4), .ref (y + 5), .ref (y + 6), .ref (y + 7), .ref (y + 8), .ref (y + 9), .ref (y + 10), .ref (y + 11), .ref (y + 12), .ref (y + 13), .ref (y + 14), .ref (y + 15), .ref (y + 16), .ref (y + 17), .ref (y + 18), .ref (y + 19), .ref (y + 20), .ref (y + 21), .ref (y + 22), .ref (y + 23), .ref (y + 24), .ref (y + 25), .ref (y + 26), .int (nI tn), .int (nI (p1 + 1)), .int (nI ((s).1)), .int (nI sl), .int (F 31), .int (nI en1), .int (nI dd1), .int (nI co1), .int (nI op1), .int (nI 12), .ref (y + 27), .ref (y + 28), .ref (y + 29), .ref (y + 30), .ref (y + 31), .ref (y + 32), .ref (y + 33), .ref (y + 34), .ref (y + 35), .ref (y + 36), .ref (y + 37), .ref (y + 38), .int (F 49), .int (F 50), .int (F 51), .int (F 52), .int (F 53), .ref (y + 39), .ref (y + 40), .ref (y + 41), .int (F 57), .int (F 58), .ref (y + 42), .ref (y + 43), .ref (y + 44), .ref (y + 45), .int (F 63), .int (F 64)]) dX12_term_80 fX12_190 (hM1.1) (Nat.le_of_ble_eq_true rfl) rfl rfl rfl ?_
                refine x_geq (G' := xup _ y (modO y (pF (upd F 36 (nI 12)) tn (p1 + 1) ((s).1) sl en1 dd1 co1 op1))) rfl ?_
                have hM103 := hM1.fld (pF (upd F 36 (nI 12)) tn (p1 + 1) ((s).1) sl en1 dd1 co1 op1)
                obtain ⟨y1, y2, y3⟩ := stp_y (c := 37) (k := 6) c12 z2 hlt (by decide) rfl c39
                have hn : PR G0 _ y hl r sc A0 F wa sa tn tp sl 0 de os (nextP tp tn s) := PRs.step (s' := nextP tp tn s) hM103 hf1 hK1 (by omega) (by omega) (fun q0 => ⟨by omega, by rw [y2], z3, z4, z5, z6, z7, z8, z9⟩)
                refine x_aload_n dX12_term_83 1 rfl ?_
                refine x_cVe (N := mX12_value) (d' := 5) (mc := 0) (ms := 0) (cb := 0) (sb := 0) (As := []) (st := []) dX12_term_84 mX12_value_v lX12_249 rfl rfl (hM103.1) rfl (by decide) (Nat.le_of_ble_eq_true rfl) (PR_value hH hn (by decide) (Hb.len htn (Hb.next hb))) rfl (sf := fun G2 => []) (fun _ => rfl) (fun G2 hq2 => ?_)
                obtain ⟨hf2, A2, p2, co2, en2, dd2, op2, hM2, hK2, hp2, hc2, hz2⟩ := id hq2
                have hT2 : TpE (A2 27) tp := by rw [hK2.1 27 (by decide) (by decide) (by decide)]; exact hT
                refine x_aload_n dX12_term_87 1 rfl ?_
                refine x_iload_n dX12_term_88 0 rfl ?_
                refine x_iconst dX12_term_89 ki_0 ?_
                refine x_cVe (N := mX12_entry) (d' := 0) (mc := 0) (ms := 0) (cb := 0) (sb := 0) (As := [.int (nI 15), .int (nI 0)]) (st := []) dX12_term_90 mX12_entry_v lX12_242 rfl rfl (hM2.1) rfl (by decide) (Nat.le_of_ble_eq_true rfl) (PR_entry (c := 6) hH hq2 (Hb.len htn (Hb.val (Hb.next hb))) (by decide)) rfl (sf := fun G3 => []) (fun _ => rfl) (fun G3 hq3 => ?_)
                obtain ⟨hf3, A3, p3, co3, en3, dd3, op3, hM3, hK3, hp3, hc3, hz3⟩ := id hq3
                have hT3 : TpE (A3 27) tp := by rw [hK3.1 27 (by decide) (by decide) (by decide)]; exact hT
                refine x_aload_n dX12_term_93 1 rfl ?_
                refine x_cVe (N := mX12_blanks) (d' := 1) (mc := 0) (ms := 0) (cb := 0) (sb := 0) (As := []) (st := []) dX12_term_94 mX12_blanks_v lX12_210 rfl rfl (hM3.1) rfl (by decide) (Nat.le_of_ble_eq_true rfl) (PR_blanks hH hq3) rfl (sf := fun G4 => []) (fun _ => rfl) (fun G4 hq4 => ?_)
                obtain ⟨hf4, A4, p4, co4, en4, dd4, op4, hM4, hK4, hp4, hc4, hz4⟩ := id hq4
                have hT4 : TpE (A4 27) tp := by rw [hK4.1 27 (by decide) (by decide) (by decide)]; exact hT
                refine x_pc (pc' := 97) rfl ?_
                refine x_goto (tgt := 8) dX12_term_97 (by decide) ?_
                refine x_perm (ls' := [(0, .ref y)]) [1] rfl ?_
                exact ih _ _ (fun q0 => trm_fu y2 hj2 z2 b1 q0) (Hb.put (Hb.val (Hb.next hb))) (by rw [← hr]; exact (trmL_s y1 (by decide) (by decide)).symm) (hq4.wk hbb)
              · exact absurd c62 c30
            · exact absurd c48 c21
theorem PR_term {K : xG} {h y : Nat} {G0 G : xHp} {hl : xHl} {r : xRw} {sc : Nat × Nat × Int32} {A0 : Nat → Nat → Int32} {F : Nat → Int32} {wa sa : Nat → Int64} {tn : Nat} {tp : Nat → Nat} {sl b de : Nat} {os : List Nat} {s : xPS} {c0 : Nat} (hH : PH A0 tp tn sl) (hR : PR G0 G y hl r sc A0 F wa sa tn tp sl b de os s) (hb5 : b < 500) (hb : Hb tn c0 s) : xCall K mX12_term 6 0 0 [.ref y] h G (prsQ G0 h y hl r sc A0 F wa sa tn tp sl (b + 1) de os (trmP tp tn s)) := by
  refine x_entry (by decide) (ls := [(0, .ref y)]) rfl (Nat.le_of_ble_eq_true rfl) ?_
  obtain ⟨hT, hlt, htn, hs6⟩ := id hH
  obtain ⟨hf9, A9, p9, co9, en9, dd9, op9, hM9, hK9, hp9, hc9, hz9⟩ := id hR
  have hT9 : TpE (A9 27) tp := by rw [hK9.1 27 (by decide) (by decide) (by decide)]; exact hT
  refine x_aload_n dX12_term_0 0 rfl ?_
  refine x_cVe (N := mX12_value) (d' := 5) (mc := 0) (ms := 0) (cb := 0) (sb := 0) (As := []) (st := []) dX12_term_1 mX12_value_v lX12_249 rfl rfl (hM9.1) rfl (by decide) (Nat.le_of_ble_eq_true rfl) (PR_value hH hR hb5 (Hb.len htn hb)) rfl (sf := fun G1 => []) (fun _ => rfl) (fun G1 hq1 => ?_)
  obtain ⟨hf1, A1, p1, co1, en1, dd1, op1, hM1, hK1, hp1, hc1, hz1⟩ := id hq1
  have hT1 : TpE (A1 27) tp := by rw [hK1.1 27 (by decide) (by decide) (by decide)]; exact hT
  refine x_aload_n dX12_term_4 0 rfl ?_
  refine x_cVe (N := mX12_blanks) (d' := 1) (mc := 0) (ms := 0) (cb := 0) (sb := 0) (As := []) (st := []) dX12_term_5 mX12_blanks_v lX12_210 rfl rfl (hM1.1) rfl (by decide) (Nat.le_of_ble_eq_true rfl) (PR_blanks hH hq1) rfl (sf := fun G2 => []) (fun _ => rfl) (fun G2 hq2 => ?_)
  obtain ⟨hf2, A2, p2, co2, en2, dd2, op2, hM2, hK2, hp2, hc2, hz2⟩ := id hq2
  have hT2 : TpE (A2 27) tp := by rw [hK2.1 27 (by decide) (by decide) (by decide)]; exact hT
  exact Md_term_loop (c0 := c0) hH (by omega) 400 _ G2 (fun q0 => by omega) (Hb.val hb) rfl hq2
theorem Md_sum_loop {K : xG} {h y : Nat} {G0 : xHp} {hl : xHl} {r : xRw} {sc : Nat × Nat × Int32} {A0 : Nat → Nat → Int32} {F : Nat → Int32} {wa sa : Nat → Int64} {tn : Nat} {tp : Nat → Nat} {sl de : Nat} {os : List Nat} {RR : xPS} {bb c0 : Nat} (hH : PH A0 tp tn sl) (hbb : 1 ≤ bb) : ∀ (j : Nat) (s : xPS) (G1 : xHp), (s.1 = 0 → tn - s.2.1 ≤ j) → Hb tn (c0 + 3) s → smL tp tn j s = RR → PRs G0 G1 y hl r sc A0 F wa sa tn tp sl bb de os s → xV K mX12_sum 7 0 0 h G1 4 [(0, .ref y)] [] (prsQ G0 h y hl r sc A0 F wa sa tn tp sl bb de os RR) := by
  obtain ⟨hT, hlt, htn, hs6⟩ := id hH
  intro j
  induction j with
  | zero =>
    intro s G1 hj hb hr hq1
    have hr0 : s = RR := hr
    obtain ⟨hf1, A1, p1, co1, en1, dd1, op1, hM1, hK1, hp1, hc1, hz1⟩ := id hq1
    have hT1 : TpE (A1 27) tp := by rw [hK1.1 27 (by decide) (by decide) (by decide)]; exact hT
    refine x_aload_n dX12_sum_4 0 rfl ?_
    refine x_get (v := .int (nI ((s).1))) dX12_sum_5 fX12_187 (hM1.1) rfl ?_
    refine x_ifN_ne (tgt := 67) dX12_sum_8 (by decide) (by omega) (fun c8 => ?_) (fun c8 => ?_)
    · exact x_vret dX12_sum_67 rfl (xEx_i G1 (by rw [← hr0]; exact hq1) rfl rfl rfl)
    · obtain ⟨z1, z2, z3⟩ := hz1 c8
      obtain ⟨b1, b2, b3⟩ := hb c8
      have hj2 := hj c8
      have hsk := sk_le (tp := tp) b1
      refine x_aload_n dX12_sum_11 0 rfl ?_
      refine x_cV (N := mX12_sign) (d' := 0) (mc := 0) (ms := 0) (cb := 0) (sb := 0) (As := []) (st := []) dX12_sum_12 mX12_sign_v lX12_193 rfl rfl (hM1.1) rfl (by decide) (Nat.le_of_ble_eq_true rfl) (Md_sign hT1 hlt htn hM1 (by omega)) rfl (st1 := [.int (sgV tp tn p1)]) rfl ?_
      refine x_bipush dX12_sum_15 kb_43 ?_
      refine x_icmp_eq (x := sgV tp tn p1) (y := nI 43) (tgt := 29) dX12_sum_17 (by decide) (fun c17 => ?_) (fun c17 => ?_)
      · exact absurd (sgV_c (by decide) hlt c17).1 (by omega)
      · refine x_aload_n dX12_sum_20 0 rfl ?_
        refine x_cV (N := mX12_sign) (d' := 0) (mc := 0) (ms := 0) (cb := 0) (sb := 0) (As := []) (st := []) dX12_sum_21 mX12_sign_v lX12_193 rfl rfl (hM1.1) rfl (by decide) (Nat.le_of_ble_eq_true rfl) (Md_sign hT1 hlt htn hM1 (by omega)) rfl (st1 := [.int (sgV tp tn p1)]) rfl ?_
        refine x_pc (pc' := 24) rfl ?_
        refine x_bipush dX12_sum_24 kb_45 ?_
        refine x_icmp_ne (x := sgV tp tn p1) (y := nI 45) (tgt := 67) dX12_sum_26 (by decide) (fun c26 => ?_) (fun c26 => ?_)
        · exact x_vret dX12_sum_67 rfl (xEx_i G1 (by rw [← hr0]; exact hq1) rfl rfl rfl)
        · exact absurd (sgV_c (by decide) hlt c26).1 (by omega)
  | succ j ih =>
    intro s G1 hj hb hr hq1
    obtain ⟨hf1, A1, p1, co1, en1, dd1, op1, hM1, hK1, hp1, hc1, hz1⟩ := id hq1
    have hT1 : TpE (A1 27) tp := by rw [hK1.1 27 (by decide) (by decide) (by decide)]; exact hT
    refine x_aload_n dX12_sum_4 0 rfl ?_
    refine x_get (v := .int (nI ((s).1))) dX12_sum_5 fX12_187 (hM1.1) rfl ?_
    refine x_ifN_ne (tgt := 67) dX12_sum_8 (by decide) (by omega) (fun c8 => ?_) (fun c8 => ?_)
    · exact x_vret dX12_sum_67 rfl (xEx_i G1 (by rw [← hr, smL_f c8]; exact hq1) rfl rfl rfl)
    · obtain ⟨z1, z2, z3, z4, z5, z6, z7, z8, z9⟩ := hz1 c8
      obtain ⟨b1, b2, b3⟩ := hb c8
      have hj2 := hj c8
      refine x_aload_n dX12_sum_11 0 rfl ?_
      refine x_cV (N := mX12_sign) (d' := 0) (mc := 0) (ms := 0) (cb := 0) (sb := 0) (As := []) (st := []) dX12_sum_12 mX12_sign_v lX12_193 rfl rfl (hM1.1) rfl (by decide) (Nat.le_of_ble_eq_true rfl) (Md_sign hT1 hlt htn hM1 (by omega)) rfl (st1 := [.int (sgV tp tn p1)]) rfl ?_
      refine x_bipush dX12_sum_15 kb_43 ?_
      refine x_icmp_eq (x := sgV tp tn p1) (y := nI 43) (tgt := 29) dX12_sum_17 (by decide) (fun c17 => ?_) (fun c17 => ?_)
      · refine x_aload_n dX12_sum_29 0 rfl ?_
        refine x_cV (N := mX12_sign) (d' := 0) (mc := 0) (ms := 0) (cb := 0) (sb := 0) (As := []) (st := []) dX12_sum_30 mX12_sign_v lX12_193 rfl rfl (hM1.1) rfl (by decide) (Nat.le_of_ble_eq_true rfl) (Md_sign hT1 hlt htn hM1 (by omega)) rfl (st1 := [.int (sgV tp tn p1)]) rfl ?_
        refine x_pc (pc' := 33) rfl ?_
        refine x_bipush dX12_sum_33 kb_43 ?_
        refine x_icmp_ne (x := sgV tp tn p1) (y := nI 43) (tgt := 42) dX12_sum_35 (by decide) (fun c35 => ?_) (fun c35 => ?_)
        · exact absurd c17 c35
        · refine x_iconst dX12_sum_38 ki_2 ?_
          refine x_goto (tgt := 43) dX12_sum_39 (by decide) ?_
          refine x_istore_n (ls' := [(1, .int (nI 2)), (0, .ref y)]) dX12_sum_43 (by decide) rfl ?_
          refine x_aload_n dX12_sum_44 1 rfl ?_
          refine x_dup dX12_sum_45 rfl ?_
          refine x_get (v := .int (nI p1)) dX12_sum_46 fX12_190 (hM1.1) rfl ?_
          refine x_iconst dX12_sum_49 ki_1 ?_
          refine x_iaddN dX12_sum_50 ?_
          refine x_pc (pc' := 51) rfl ?_
          refine x_put (fs' := [.int (F 0), .ref (y + 1), .ref (y + 2), .ref (y + 3), .ref (y + 4), .ref (y + 5), .ref (y + 6), .ref (y + 7), .ref (y + 8), .ref (y + 9), .ref (y + 10), .ref (y + 11), .ref (y + 12), .ref (y + 13), .ref (y + 14), .ref (y + 15), .ref (y + 16), .ref (y + 17), .ref (y + 18), .ref (y + 19), .ref (y + 20), .ref (y + 21), .ref (y + 22), .ref (y + 23), .ref (y + 24), .ref (y + 25), .ref (y + 26), .int (nI tn), .int (nI (p1 + 1)), .int (nI ((s).1)), .int (nI sl), .int (F 31), .int (nI en1), .int (nI dd1), .int (nI co1), .int (nI op1), .int (nI 12), .ref (y + 27), .ref (y + 28), .ref (y + 29), .ref (y + 30), .ref (y + 31), .ref (y + 32), .ref (y + 33), .ref (y + 34), .ref (y + 35), .ref (y + 36), .ref (y + 37), .ref (y + 38), .int (F 49), .int (F 50), .int (F 51), .int (F 52), .int (F 53), .ref (y + 39), .ref (y + 40), .ref (y + 41), .int (F 57), .int (F 58), .ref (y + 42), .ref (y + 43), .ref (y + 44), .ref (y + 45), .int (F 63), .int (F 64)]) dX12_sum_51 fX12_190 (hM1.1) (Nat.le_of_ble_eq_true rfl) rfl rfl rfl ?_
          refine x_geq (G' := xup _ y (modO y (pF (upd F 36 (nI 12)) tn (p1 + 1) ((s).1) sl en1 dd1 co1 op1))) rfl ?_
          have hM101 := hM1.fld (pF (upd F 36 (nI 12)) tn (p1 + 1) ((s).1) sl en1 dd1 co1 op1)
          obtain ⟨y1, y2, y3⟩ := stp_y (c := 43) (k := 2) c8 z2 hlt (by decide) rfl c17
          have hn : PR G0 _ y hl r sc A0 F wa sa tn tp sl 0 de os (nextP tp tn s) := PRs.step (s' := nextP tp tn s) hM101 hf1 hK1 (by omega) (by omega) (fun q0 => ⟨by omega, by rw [y2], z3, z4, z5, z6, z7, z8, z9⟩)
          refine x_aload_n dX12_sum_54 1 rfl ?_
          refine x_cVe (N := mX12_term) (d' := 6) (mc := 0) (ms := 0) (cb := 0) (sb := 0) (As := []) (st := []) dX12_sum_55 mX12_term_v lX12_252 rfl rfl (hM101.1) rfl (by decide) (Nat.le_of_ble_eq_true rfl) (PR_term (c0 := c0 + 3) hH hn (by decide) (Hb.next hb)) rfl (sf := fun G2 => []) (fun _ => rfl) (fun G2 hq2 => ?_)
          obtain ⟨hf2, A2, p2, co2, en2, dd2, op2, hM2, hK2, hp2, hc2, hz2⟩ := id hq2
          have hT2 : TpE (A2 27) tp := by rw [hK2.1 27 (by decide) (by decide) (by decide)]; exact hT
          refine x_aload_n dX12_sum_58 1 rfl ?_
          refine x_iload_n dX12_sum_59 0 rfl ?_
          refine x_iconst dX12_sum_60 ki_0 ?_
          refine x_cVe (N := mX12_entry) (d' := 0) (mc := 0) (ms := 0) (cb := 0) (sb := 0) (As := [.int (nI 2), .int (nI 0)]) (st := []) dX12_sum_61 mX12_entry_v lX12_242 rfl rfl (hM2.1) rfl (by decide) (Nat.le_of_ble_eq_true rfl) (PRs_entry (c := 2) hH hq2 (Hb.len htn (Hb.trmP (Hb.next hb))) (by decide)) rfl (sf := fun G3 => []) (fun _ => rfl) (fun G3 hq3 => ?_)
          obtain ⟨hf3, A3, p3, co3, en3, dd3, op3, hM3, hK3, hp3, hc3, hz3⟩ := id hq3
          have hT3 : TpE (A3 27) tp := by rw [hK3.1 27 (by decide) (by decide) (by decide)]; exact hT
          refine x_goto (tgt := 4) dX12_sum_64 (by decide) ?_
          refine x_perm (ls' := [(0, .ref y)]) [1] rfl ?_
          exact ih _ _ (fun q0 => sum_fu y2 hj2 z2 b1 q0) (Hb.put (Hb.trmP (Hb.next hb))) (by rw [← hr]; exact (smL_s y1 (by decide)).symm) (hq3.wk hbb)
      · refine x_aload_n dX12_sum_20 0 rfl ?_
        refine x_cV (N := mX12_sign) (d' := 0) (mc := 0) (ms := 0) (cb := 0) (sb := 0) (As := []) (st := []) dX12_sum_21 mX12_sign_v lX12_193 rfl rfl (hM1.1) rfl (by decide) (Nat.le_of_ble_eq_true rfl) (Md_sign hT1 hlt htn hM1 (by omega)) rfl (st1 := [.int (sgV tp tn p1)]) rfl ?_
        refine x_pc (pc' := 24) rfl ?_
        refine x_bipush dX12_sum_24 kb_45 ?_
        refine x_icmp_ne (x := sgV tp tn p1) (y := nI 45) (tgt := 67) dX12_sum_26 (by decide) (fun c26 => ?_) (fun c26 => ?_)
        · exact x_vret dX12_sum_67 rfl (xEx_i G1 (by rw [← hr, smL_o hlt z2 (fun q0 => c17 (sgV_i q0.1 q0.2)) (fun q0 => c26 (sgV_i q0.1 q0.2))]; exact hq1) rfl rfl rfl)
        · refine x_aload_n dX12_sum_29 0 rfl ?_
          refine x_cV (N := mX12_sign) (d' := 0) (mc := 0) (ms := 0) (cb := 0) (sb := 0) (As := []) (st := []) dX12_sum_30 mX12_sign_v lX12_193 rfl rfl (hM1.1) rfl (by decide) (Nat.le_of_ble_eq_true rfl) (Md_sign hT1 hlt htn hM1 (by omega)) rfl (st1 := [.int (sgV tp tn p1)]) rfl ?_
          refine x_bipush dX12_sum_33 kb_43 ?_
          refine x_icmp_ne (x := sgV tp tn p1) (y := nI 43) (tgt := 42) dX12_sum_35 (by decide) (fun c35 => ?_) (fun c35 => ?_)
          · refine x_iconst dX12_sum_42 ki_3 ?_
            refine x_istore_n (ls' := [(1, .int (nI 3)), (0, .ref y)]) dX12_sum_43 (by decide) rfl ?_
            refine x_aload_n dX12_sum_44 1 rfl ?_
            refine x_dup dX12_sum_45 rfl ?_
            refine x_pc (pc' := 46) rfl ?_
            refine x_get (v := .int (nI p1)) dX12_sum_46 fX12_190 (hM1.1) rfl ?_
            refine x_iconst dX12_sum_49 ki_1 ?_
            refine x_iaddN dX12_sum_50 ?_
            refine x_put (fs' := [.int (F 0), .ref (y + 1), .ref (y + 2), .ref (y + 3), .ref (y + 4), .ref (y + 5), .ref (y + 6), .ref (y + 7), .ref (y + 8), .ref (y + 9), .ref (y + 10), .ref (y + 11), .ref (y + 12), .ref (y + 13), .ref (y + 14), .ref (y + 15), .ref (y + 16), .ref (y + 17), .ref (y + 18), .ref (y + 19), .ref (y + 20), .ref (y + 21), .ref (y + 22), .ref (y + 23), .ref (y + 24), .ref (y + 25), .ref (y + 26), .int (nI tn), .int (nI (p1 + 1)), .int (nI ((s).1)), .int (nI sl), .int (F 31), .int (nI en1), .int (nI dd1), .int (nI co1), .int (nI op1), .int (nI 12), .ref (y + 27), .ref (y + 28), .ref (y + 29), .ref (y + 30), .ref (y + 31), .ref (y + 32), .ref (y + 33), .ref (y + 34), .ref (y + 35), .ref (y + 36), .ref (y + 37), .ref (y + 38), .int (F 49), .int (F 50), .int (F 51), .int (F 52), .int (F 53), .ref (y + 39), .ref (y + 40), .ref (y + 41), .int (F 57), .int (F 58), .ref (y + 42), .ref (y + 43), .ref (y + 44), .ref (y + 45), .int (F 63), .int (F 64)]) dX12_sum_51 fX12_190 (hM1.1) (Nat.le_of_ble_eq_true rfl) rfl rfl rfl ?_
            refine x_geq (G' := xup _ y (modO y (pF (upd F 36 (nI 12)) tn (p1 + 1) ((s).1) sl en1 dd1 co1 op1))) rfl ?_
            have hM102 := hM1.fld (pF (upd F 36 (nI 12)) tn (p1 + 1) ((s).1) sl en1 dd1 co1 op1)
            obtain ⟨y1, y2, y3⟩ := stp_y (c := 45) (k := 3) c8 z2 hlt (by decide) rfl c26
            have hn : PR G0 _ y hl r sc A0 F wa sa tn tp sl 0 de os (nextP tp tn s) := PRs.step (s' := nextP tp tn s) hM102 hf1 hK1 (by omega) (by omega) (fun q0 => ⟨by omega, by rw [y2], z3, z4, z5, z6, z7, z8, z9⟩)
            refine x_aload_n dX12_sum_54 1 rfl ?_
            refine x_cVe (N := mX12_term) (d' := 6) (mc := 0) (ms := 0) (cb := 0) (sb := 0) (As := []) (st := []) dX12_sum_55 mX12_term_v lX12_252 rfl rfl (hM102.1) rfl (by decide) (Nat.le_of_ble_eq_true rfl) (PR_term (c0 := c0 + 3) hH hn (by decide) (Hb.next hb)) rfl (sf := fun G2 => []) (fun _ => rfl) (fun G2 hq2 => ?_)
            obtain ⟨hf2, A2, p2, co2, en2, dd2, op2, hM2, hK2, hp2, hc2, hz2⟩ := id hq2
            have hT2 : TpE (A2 27) tp := by rw [hK2.1 27 (by decide) (by decide) (by decide)]; exact hT
            refine x_aload_n dX12_sum_58 1 rfl ?_
            refine x_iload_n dX12_sum_59 0 rfl ?_
            refine x_iconst dX12_sum_60 ki_0 ?_
            refine x_cVe (N := mX12_entry) (d' := 0) (mc := 0) (ms := 0) (cb := 0) (sb := 0) (As := [.int (nI 3), .int (nI 0)]) (st := []) dX12_sum_61 mX12_entry_v lX12_242 rfl rfl (hM2.1) rfl (by decide) (Nat.le_of_ble_eq_true rfl) (PRs_entry (c := 3) hH hq2 (Hb.len htn (Hb.trmP (Hb.next hb))) (by decide)) rfl (sf := fun G3 => []) (fun _ => rfl) (fun G3 hq3 => ?_)
            obtain ⟨hf3, A3, p3, co3, en3, dd3, op3, hM3, hK3, hp3, hc3, hz3⟩ := id hq3
            have hT3 : TpE (A3 27) tp := by rw [hK3.1 27 (by decide) (by decide) (by decide)]; exact hT
            refine x_pc (pc' := 64) rfl ?_
            refine x_goto (tgt := 4) dX12_sum_64 (by decide) ?_
            refine x_perm (ls' := [(0, .ref y)]) [1] rfl ?_
            exact ih _ _ (fun q0 => sum_fu y2 hj2 z2 b1 q0) (Hb.put (Hb.trmP (Hb.next hb))) (by rw [← hr]; exact (smL_s y1 (by decide)).symm) (hq3.wk hbb)
          · exact absurd c35 c17
theorem PR_sum {K : xG} {h y : Nat} {G0 G : xHp} {hl : xHl} {r : xRw} {sc : Nat × Nat × Int32} {A0 : Nat → Nat → Int32} {F : Nat → Int32} {wa sa : Nat → Int64} {tn : Nat} {tp : Nat → Nat} {sl b de : Nat} {os : List Nat} {s : xPS} {c0 : Nat} (hH : PH A0 tp tn sl) (hR : PR G0 G y hl r sc A0 F wa sa tn tp sl b de os s) (hb5 : b < 500) (hb : Hb tn c0 s) : xCall K mX12_sum 7 0 0 [.ref y] h G (prsQ G0 h y hl r sc A0 F wa sa tn tp sl (b + 1) de os (sumP tp tn s)) := by
  refine x_entry (by decide) (ls := [(0, .ref y)]) rfl (Nat.le_of_ble_eq_true rfl) ?_
  obtain ⟨hT, hlt, htn, hs6⟩ := id hH
  obtain ⟨hf9, A9, p9, co9, en9, dd9, op9, hM9, hK9, hp9, hc9, hz9⟩ := id hR
  have hT9 : TpE (A9 27) tp := by rw [hK9.1 27 (by decide) (by decide) (by decide)]; exact hT
  refine x_aload_n dX12_sum_0 0 rfl ?_
  refine x_cVe (N := mX12_term) (d' := 6) (mc := 0) (ms := 0) (cb := 0) (sb := 0) (As := []) (st := []) dX12_sum_1 mX12_term_v lX12_252 rfl rfl (hM9.1) rfl (by decide) (Nat.le_of_ble_eq_true rfl) (PR_term (c0 := c0) hH hR hb5 hb) rfl (sf := fun G1 => []) (fun _ => rfl) (fun G1 hq1 => ?_)
  obtain ⟨hf1, A1, p1, co1, en1, dd1, op1, hM1, hK1, hp1, hc1, hz1⟩ := id hq1
  have hT1 : TpE (A1 27) tp := by rw [hK1.1 27 (by decide) (by decide) (by decide)]; exact hT
  exact Md_sum_loop (c0 := c0) hH (by omega) 400 _ G1 (fun q0 => by omega) (Hb.trmP hb) rfl hq1
