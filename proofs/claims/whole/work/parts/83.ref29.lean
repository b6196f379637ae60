theorem PR_compared {K : xG} {h y : Nat} {G0 G : xHp} {hl : xHl} {r : xRw} {sc : Nat × Nat × Int32} {A0 : Nat → Nat → Int32} {F : Nat → Int32} {wa sa : Nat → Int64} {tn : Nat} {tp : Nat → Nat} {sl b de : Nat} {os : List Nat} {s : xPS} {c0 : Nat} (hH : PH A0 tp tn sl) (hR : PR G0 G y hl r sc A0 F wa sa tn tp sl b de os s) (hb5 : b < 400) (hb : Hb tn c0 s) : xCall K mX12_compared 8 0 0 [.ref y] h G (prQ G0 h y hl r sc A0 F wa sa tn tp sl (b + 3) de os (cmpP tp tn s)) := by
  refine x_entry (by decide) (ls := [(0, .ref y)]) rfl (Nat.le_of_ble_eq_true rfl) ?_
  obtain ⟨hT, hlt, htn, hs6⟩ := id hH
  obtain ⟨hf9, A9, p9, co9, en9, dd9, op9, hM9, hK9, hp9, hc9, hz9⟩ := id hR
  have hT9 : TpE (A9 27) tp := by rw [hK9.1 27 (by decide) (by decide) (by decide)]; exact hT
  refine x_aload_n dX12_compared_0 0 rfl ?_
  refine x_cVe (N := mX12_sum) (d' := 7) (mc := 0) (ms := 0) (cb := 0) (sb := 0) (As := []) (st := []) dX12_compared_1 mX12_sum_v lX12_255 rfl rfl (hM9.1) rfl (by decide) (Nat.le_of_ble_eq_true rfl) (PR_sum (c0 := c0) hH hR (by omega) hb) rfl (sf := fun G1 => []) (fun _ => rfl) (fun G1 hq1 => ?_)
  obtain ⟨hf1, A1, p1, co1, en1, dd1, op1, hM1, hK1, hp1, hc1, hz1⟩ := id hq1
  have hT1 : TpE (A1 27) tp := by rw [hK1.1 27 (by decide) (by decide) (by decide)]; exact hT
  refine x_aload_n dX12_compared_4 0 rfl ?_
  refine x_cV (N := mX12_sign) (d' := 0) (mc := 0) (ms := 0) (cb := 0) (sb := 0) (As := []) (st := []) dX12_compared_5 mX12_sign_v lX12_193 rfl rfl (hM1.1) rfl (by decide) (Nat.le_of_ble_eq_true rfl) (Md_sign hT1 hlt htn hM1 (by omega)) rfl (st1 := [.int (sgV tp tn p1)]) rfl ?_
  refine x_istore_n (ls' := [(1, .int (sgV tp tn p1)), (0, .ref y)]) dX12_compared_8 (by decide) rfl ?_
  refine x_iload_n dX12_compared_9 0 rfl ?_
  refine x_bipush dX12_compared_10 kb_60 ?_
  refine x_icmp_eq (x := sgV tp tn p1) (y := nI 60) (tgt := 37) dX12_compared_12 (by decide) (fun c12 => ?_) (fun c12 => ?_)
  · obtain ⟨x1, x2⟩ := sgV_c (c := 60) (by decide) hlt c12
    have hct := ct_f (tp := tp) (n := tn) (s := sumP tp tn s) (p := p1) (co := co1) (fun q0 => ⟨(hz1 q0).2.1, (hz1 q0).2.2.1, (hz1 q0).2.2.2.1⟩)
    refine x_aload_n dX12_compared_37 1 rfl ?_
    refine x_pc (pc' := 38) rfl ?_
    refine x_aload_n dX12_compared_38 1 rfl ?_
    refine x_get (v := .int (nI p1)) dX12_compared_39 fX12_190 (hM1.1) rfl ?_
    refine x_cVe (N := mX12_isCounted) (d' := 1) (mc := 0) (ms := 0) (cb := 0) (sb := 0) (As := [.int (nI p1)]) (st := []) dX12_compared_42 mX12_isCounted_v lX12_239 rfl rfl (hM1.1) rfl (by decide) (Nat.le_of_ble_eq_true rfl) (Md_isCounted (b := p1) hM1 hf1 (by omega)) rfl (sf := fun G2 => []) (fun _ => rfl) (fun G2 hM2 => ?_)
    refine x_aload_n dX12_compared_45 1 rfl ?_
    refine x_dup dX12_compared_46 rfl ?_
    refine x_get (v := .int (nI p1)) dX12_compared_47 fX12_190 (hM2.1) rfl ?_
    refine x_iconst dX12_compared_50 ki_1 ?_
    refine x_iaddN dX12_compared_51 ?_
    refine x_put (fs' := [.int (F 0), .ref (y + 1), .ref (y + 2), .ref (y + 3), .ref (y + 4), .ref (y + 5), .ref (y + 6), .ref (y + 7), .ref (y + 8), .ref (y + 9), .ref (y + 10), .ref (y + 11), .ref (y + 12), .ref (y + 13), .ref (y + 14), .ref (y + 15), .ref (y + 16), .ref (y + 17), .ref (y + 18), .ref (y + 19), .ref (y + 20), .ref (y + 21), .ref (y + 22), .ref (y + 23), .ref (y + 24), .ref (y + 25), .ref (y + 26), .int (nI tn), .int (nI (p1 + 1)), .int (nI (cfF (sumP tp tn s).1 co1 p1)), .int (nI sl), .int (F 31), .int (nI en1), .int (nI dd1), .int (nI (co1 + 1)), .int (nI op1), .int (nI 12), .ref (y + 27), .ref (y + 28), .ref (y + 29), .ref (y + 30), .ref (y + 31), .ref (y + 32), .ref (y + 33), .ref (y + 34), .ref (y + 35), .ref (y + 36), .ref (y + 37), .ref (y + 38), .int (F 49), .int (F 50), .int (F 51), .int (F 52), .int (F 53), .ref (y + 39), .ref (y + 40), .ref (y + 41), .int (F 57), .int (F 58), .ref (y + 42), .ref (y + 43), .ref (y + 44), .ref (y + 45), .int (F 63), .int (F 64)]) dX12_compared_52 fX12_190 (hM2.1) (Nat.le_of_ble_eq_true rfl) rfl rfl rfl ?_
    refine x_geq (G' := xup _ y (modO y (pF (upd F 36 (nI 12)) tn (p1 + 1) (cfF (sumP tp tn s).1 co1 p1) sl en1 dd1 (co1 + 1) op1))) rfl ?_
    have hM101 := hM2.fld (pF (upd F 36 (nI 12)) tn (p1 + 1) (cfF (sumP tp tn s).1 co1 p1) sl en1 dd1 (co1 + 1) op1)
    refine x_iload_n dX12_compared_55 0 rfl ?_
    refine x_pc (pc' := 56) rfl ?_
    refine x_bipush dX12_compared_56 kb_61 ?_
    refine x_icmp_eq (x := sgV tp tn p1) (y := nI 61) (tgt := 74) dX12_compared_58 (by decide) (fun c58 => ?_) (fun c58 => ?_)
    · exact absurd (c12.symm.trans c58) (by decide)
    · refine x_aload_n dX12_compared_61 1 rfl ?_
      refine x_cV (N := mX12_sign) (d' := 0) (mc := 0) (ms := 0) (cb := 0) (sb := 0) (As := []) (st := []) dX12_compared_62 mX12_sign_v lX12_193 rfl rfl (hM101.1) rfl (by decide) (Nat.le_of_ble_eq_true rfl) (Md_sign hT1 hlt htn hM101 (by omega)) rfl (st1 := [.int (sgV tp tn (p1 + 1))]) rfl ?_
      refine x_bipush dX12_compared_65 kb_61 ?_
      refine x_icmp_ne (x := sgV tp tn (p1 + 1)) (y := nI 61) (tgt := 74) dX12_compared_67 (by decide) (fun c67 => ?_) (fun c67 => ?_)
      · refine x_iconst dX12_compared_74 ki_0 ?_
        refine x_istore_n (ls' := [(2, .int (nI 0)), (1, .int (sgV tp tn p1)), (0, .ref y)]) dX12_compared_75 (by decide) rfl ?_
        refine x_aload_n dX12_compared_76 2 rfl ?_
        refine x_dup dX12_compared_77 rfl ?_
        refine x_pc (pc' := 78) rfl ?_
        refine x_get (v := .int (nI (p1 + 1))) dX12_compared_78 fX12_190 (hM101.1) rfl ?_
        refine x_iload_n dX12_compared_81 0 rfl ?_
        refine x_ifN_eq (tgt := 89) dX12_compared_82 (by decide) (by omega) (fun c82 => ?_) (fun c82 => ?_)
        · refine x_iconst dX12_compared_89 ki_0 ?_
          refine x_iaddN dX12_compared_90 ?_
          refine x_put (fs' := [.int (F 0), .ref (y + 1), .ref (y + 2), .ref (y + 3), .ref (y + 4), .ref (y + 5), .ref (y + 6), .ref (y + 7), .ref (y + 8), .ref (y + 9), .ref (y + 10), .ref (y + 11), .ref (y + 12), .ref (y + 13), .ref (y + 14), .ref (y + 15), .ref (y + 16), .ref (y + 17), .ref (y + 18), .ref (y + 19), .ref (y + 20), .ref (y + 21), .ref (y + 22), .ref (y + 23), .ref (y + 24), .ref (y + 25), .ref (y + 26), .int (nI tn), .int (nI ((p1 + 1) + 0)), .int (nI (cfF (sumP tp tn s).1 co1 p1)), .int (nI sl), .int (F 31), .int (nI en1), .int (nI dd1), .int (nI (co1 + 1)), .int (nI op1), .int (nI 12), .ref (y + 27), .ref (y + 28), .ref (y + 29), .ref (y + 30), .ref (y + 31), .ref (y + 32), .ref (y + 33), .ref (y + 34), .ref (y + 35), .ref (y + 36), .ref (y + 37), .ref (y + 38), .int (F 49), .int (F 50), .int (F 51), .int (F 52), .int (F 53), .ref (y + 39), .ref (y + 40), .ref (y + 41), .int (F 57), .int (F 58), .ref (y + 42), .ref (y + 43), .ref (y + 44), .ref (y + 45), .int (F 63), .int (F 64)]) dX12_compared_91 fX12_190 (hM101.1) (Nat.le_of_ble_eq_true rfl) rfl rfl rfl ?_
          refine x_geq (G' := xup _ y (modO y (pF (upd F 36 (nI 12)) tn ((p1 + 1) + 0) (cfF (sumP tp tn s).1 co1 p1) sl en1 dd1 (co1 + 1) op1))) rfl ?_
          have hM102 := hM101.fld (pF (upd F 36 (nI 12)) tn ((p1 + 1) + 0) (cfF (sumP tp tn s).1 co1 p1) sl en1 dd1 (co1 + 1) op1)
          obtain ⟨t1, -, t2⟩ := cmp_tok x1 x2 (by decide)
          obtain ⟨t4, t3⟩ := t2 (fun q0 => c67 (sgV_i q0.1 q0.2))
          have hst : (sumP tp tn s).1 = 0 → stpP tp tn (sumP tp tn s) = some 7 := fun q0 => stp_c q0 (hz1 q0).2.1 t1 t3 rfl
          have hn : PR G0 _ y hl r sc A0 F wa sa tn tp sl (b + 1 + 1) de os (nextP tp tn (ctP tp tn (sumP tp tn s))) := PRs.step (s' := nextP tp tn (ctP tp tn (sumP tp tn s))) (by rw [show (nextP tp tn (ctP tp tn (sumP tp tn s))).1 = (cfF (sumP tp tn s).1 co1 p1) from hct]; exact hM102) (by rw [show (nextP tp tn (ctP tp tn (sumP tp tn s))).1 = (cfF (sumP tp tn s).1 co1 p1) from hct]; exact cfF_lt hf1 (by omega)) hK1 (by omega) (by omega) (fun q0 => cmp_hz hz1 t4 q0 (by omega))
          refine x_aload_n dX12_compared_94 2 rfl ?_
          refine x_cVe (N := mX12_sum) (d' := 7) (mc := 0) (ms := 0) (cb := 0) (sb := 0) (As := []) (st := []) dX12_compared_95 mX12_sum_v lX12_255 rfl rfl (hM102.1) rfl (by decide) (Nat.le_of_ble_eq_true rfl) (PR_sum (c0 := c0 + 3 + 6) hH hn (by omega) (Hb.next (Hb.ct (Hb.sumP hb)))) rfl (sf := fun G3 => []) (fun _ => rfl) (fun G3 hq3 => ?_)
          obtain ⟨hf3, A3, p3, co3, en3, dd3, op3, hM3, hK3, hp3, hc3, hz3⟩ := id hq3
          have hT3 : TpE (A3 27) tp := by rw [hK3.1 27 (by decide) (by decide) (by decide)]; exact hT
          refine x_aload_n dX12_compared_98 2 rfl ?_
          refine x_iload_n dX12_compared_99 1 rfl ?_
          refine x_pc (pc' := 100) rfl ?_
          refine x_bipush dX12_compared_100 kb_61 ?_
          refine x_icmp_ne (x := sgV tp tn p1) (y := nI 61) (tgt := 110) dX12_compared_102 (by decide) (fun c102 => ?_) (fun c102 => ?_)
          · refine x_iload_n dX12_compared_110 1 rfl ?_
            refine x_bipush dX12_compared_111 kb_60 ?_
            refine x_icmp_ne (x := sgV tp tn p1) (y := nI 60) (tgt := 128) dX12_compared_113 (by decide) (fun c113 => ?_) (fun c113 => ?_)
            · exact absurd c12 c113
            · refine x_iload_n dX12_compared_116 0 rfl ?_
              refine x_ifN_eq (tgt := 124) dX12_compared_117 (by decide) (by omega) (fun c117 => ?_) (fun c117 => ?_)
              · refine x_iconst dX12_compared_124 ki_4 ?_
                refine x_goto (tgt := 139) dX12_compared_125 (by decide) ?_
                refine x_iconst dX12_compared_139 ki_0 ?_
                refine x_pc (pc' := 140) rfl ?_
                refine x_cVe (N := mX12_entry) (d' := 0) (mc := 0) (ms := 0) (cb := 0) (sb := 0) (As := [.int (nI 4), .int (nI 0)]) (st := []) dX12_compared_140 mX12_entry_v lX12_242 rfl rfl (hM3.1) rfl (by decide) (Nat.le_of_ble_eq_true rfl) (PRs_entry (c := 7) hH hq3 (Hb.len htn (Hb.sumP (Hb.next (Hb.ct (Hb.sumP hb))))) (by decide)) rfl (sf := fun G4 => []) (fun _ => rfl) (fun G4 hq4 => ?_)
                obtain ⟨hf4, A4, p4, co4, en4, dd4, op4, hM4, hK4, hp4, hc4, hz4⟩ := id hq4
                have hT4 : TpE (A4 27) tp := by rw [hK4.1 27 (by decide) (by decide) (by decide)]; exact hT
                have hcy := cmp_y (tp := tp) (n := tn) (s := s) htn (fun q0 => (hb q0).1) hst (by decide)
                have hb9 := Hb.put (k := 7) (v := 0) (Hb.sumP (tp := tp) (Hb.next (tp := tp) (Hb.ct (tp := tp) (Hb.sumP (tp := tp) hb))))
                exact x_vret dX12_compared_143 rfl (xEx_i G4 ((PRs.to (fun q0 => (hb9 q0).1) hq4).cg hcy.1 hcy.2) rfl rfl rfl)
              · exact absurd c117 (by decide)
          · exact absurd (c12.symm.trans c102) (by decide)
        · exact absurd c82 (by decide)
      · refine x_iconst dX12_compared_70 ki_1 ?_
        refine x_goto (tgt := 75) dX12_compared_71 (by decide) ?_
        refine x_istore_n (ls' := [(2, .int (nI 1)), (1, .int (sgV tp tn p1)), (0, .ref y)]) dX12_compared_75 (by decide) rfl ?_
        refine x_aload_n dX12_compared_76 2 rfl ?_
        refine x_pc (pc' := 77) rfl ?_
        refine x_dup dX12_compared_77 rfl ?_
        refine x_get (v := .int (nI (p1 + 1))) dX12_compared_78 fX12_190 (hM101.1) rfl ?_
        refine x_iload_n dX12_compared_81 0 rfl ?_
        refine x_ifN_eq (tgt := 89) dX12_compared_82 (by decide) (by omega) (fun c82 => ?_) (fun c82 => ?_)
        · exact absurd c82 (by decide)
        · refine x_iconst dX12_compared_85 ki_1 ?_
          refine x_goto (tgt := 90) dX12_compared_86 (by decide) ?_
          refine x_iaddN dX12_compared_90 ?_
          refine x_put (fs' := [.int (F 0), .ref (y + 1), .ref (y + 2), .ref (y + 3), .ref (y + 4), .ref (y + 5), .ref (y + 6), .ref (y + 7), .ref (y + 8), .ref (y + 9), .ref (y + 10), .ref (y + 11), .ref (y + 12), .ref (y + 13), .ref (y + 14), .ref (y + 15), .ref (y + 16), .ref (y + 17), .ref (y + 18), .ref (y + 19), .ref (y + 20), .ref (y + 21), .ref (y + 22), .ref (y + 23), .ref (y + 24), .ref (y + 25), .ref (y + 26), .int (nI tn), .int (nI ((p1 + 1) + 1)), .int (nI (cfF (sumP tp tn s).1 co1 p1)), .int (nI sl), .int (F 31), .int (nI en1), .int (nI dd1), .int (nI (co1 + 1)), .int (nI op1), .int (nI 12), .ref (y + 27), .ref (y + 28), .ref (y + 29), .ref (y + 30), .ref (y + 31), .ref (y + 32), .ref (y + 33), .ref (y + 34), .ref (y + 35), .ref (y + 36), .ref (y + 37), .ref (y + 38), .int (F 49), .int (F 50), .int (F 51), .int (F 52), .int (F 53), .ref (y + 39), .ref (y + 40), .ref (y + 41), .int (F 57), .int (F 58), .ref (y + 42), .ref (y + 43), .ref (y + 44), .ref (y + 45), .int (F 63), .int (F 64)]) dX12_compared_91 fX12_190 (hM101.1) (Nat.le_of_ble_eq_true rfl) rfl rfl rfl ?_
          refine x_geq (G' := xup _ y (modO y (pF (upd F 36 (nI 12)) tn ((p1 + 1) + 1) (cfF (sumP tp tn s).1 co1 p1) sl en1 dd1 (co1 + 1) op1))) rfl ?_
          have hM103 := hM101.fld (pF (upd F 36 (nI 12)) tn ((p1 + 1) + 1) (cfF (sumP tp tn s).1 co1 p1) sl en1 dd1 (co1 + 1) op1)
          obtain ⟨v1, v2⟩ := sgV_c (c := 61) (by decide) hlt c67
          obtain ⟨t1, t2, -⟩ := cmp_tok x1 x2 (by decide)
          obtain ⟨t4, t3⟩ := t2 ⟨v1, v2⟩
          have hst : (sumP tp tn s).1 = 0 → stpP tp tn (sumP tp tn s) = some 8 := fun q0 => stp_c q0 (hz1 q0).2.1 t1 t3 rfl
          have hn : PR G0 _ y hl r sc A0 F wa sa tn tp sl (b + 1 + 1) de os (nextP tp tn (ctP tp tn (sumP tp tn s))) := PRs.step (s' := nextP tp tn (ctP tp tn (sumP tp tn s))) (by rw [show (nextP tp tn (ctP tp tn (sumP tp tn s))).1 = (cfF (sumP tp tn s).1 co1 p1) from hct]; exact hM103) (by rw [show (nextP tp tn (ctP tp tn (sumP tp tn s))).1 = (cfF (sumP tp tn s).1 co1 p1) from hct]; exact cfF_lt hf1 (by omega)) hK1 (by omega) (by omega) (fun q0 => cmp_hz hz1 t4 q0 (by omega))
          refine x_aload_n dX12_compared_94 2 rfl ?_
          refine x_cVe (N := mX12_sum) (d' := 7) (mc := 0) (ms := 0) (cb := 0) (sb := 0) (As := []) (st := []) dX12_compared_95 mX12_sum_v lX12_255 rfl rfl (hM103.1) rfl (by decide) (Nat.le_of_ble_eq_true rfl) (PR_sum (c0 := c0 + 3 + 6) hH hn (by omega) (Hb.next (Hb.ct (Hb.sumP hb)))) rfl (sf := fun G3 => []) (fun _ => rfl) (fun G3 hq3 => ?_)
          obtain ⟨hf3, A3, p3, co3, en3, dd3, op3, hM3, hK3, hp3, hc3, hz3⟩ := id hq3
          have hT3 : TpE (A3 27) tp := by rw [hK3.1 27 (by decide) (by decide) (by decide)]; exact hT
          refine x_pc (pc' := 98) rfl ?_
          refine x_aload_n dX12_compared_98 2 rfl ?_
          refine x_iload_n dX12_compared_99 1 rfl ?_
          refine x_bipush dX12_compared_100 kb_61 ?_
          refine x_icmp_ne (x := sgV tp tn p1) (y := nI 61) (tgt := 110) dX12_compared_102 (by decide) (fun c102 => ?_) (fun c102 => ?_)
          · refine x_iload_n dX12_compared_110 1 rfl ?_
            refine x_bipush dX12_compared_111 kb_60 ?_
            refine x_icmp_ne (x := sgV tp tn p1) (y := nI 60) (tgt := 128) dX12_compared_113 (by decide) (fun c113 => ?_) (fun c113 => ?_)
            · exact absurd c12 c113
            · refine x_iload_n dX12_compared_116 0 rfl ?_
              refine x_ifN_eq (tgt := 124) dX12_compared_117 (by decide) (by omega) (fun c117 => ?_) (fun c117 => ?_)
              · exact absurd c117 (by decide)
              · refine x_iconst dX12_compared_120 ki_5 ?_
                refine x_pc (pc' := 121) rfl ?_
                refine x_goto (tgt := 139) dX12_compared_121 (by decide) ?_
                refine x_iconst dX12_compared_139 ki_0 ?_
                refine x_cVe (N := mX12_entry) (d' := 0) (mc := 0) (ms := 0) (cb := 0) (sb := 0) (As := [.int (nI 5), .int (nI 0)]) (st := []) dX12_compared_140 mX12_entry_v lX12_242 rfl rfl (hM3.1) rfl (by decide) (Nat.le_of_ble_eq_true rfl) (PRs_entry (c := 8) hH hq3 (Hb.len htn (Hb.sumP (Hb.next (Hb.ct (Hb.sumP hb))))) (by decide)) rfl (sf := fun G4 => []) (fun _ => rfl) (fun G4 hq4 => ?_)
                obtain ⟨hf4, A4, p4, co4, en4, dd4, op4, hM4, hK4, hp4, hc4, hz4⟩ := id hq4
                have hT4 : TpE (A4 27) tp := by rw [hK4.1 27 (by decide) (by decide) (by decide)]; exact hT
                have hcy := cmp_y (tp := tp) (n := tn) (s := s) htn (fun q0 => (hb q0).1) hst (by decide)
                have hb9 := Hb.put (k := 8) (v := 0) (Hb.sumP (tp := tp) (Hb.next (tp := tp) (Hb.ct (tp := tp) (Hb.sumP (tp := tp) hb))))
                exact x_vret dX12_compared_143 rfl (xEx_i G4 ((PRs.to (fun q0 => (hb9 q0).1) hq4).cg hcy.1 hcy.2) rfl rfl rfl)
          · exact absurd (c12.symm.trans c102) (by decide)
  · refine x_iload_n dX12_compared_15 0 rfl ?_
    refine x_pc (pc' := 16) rfl ?_
    refine x_bipush dX12_compared_16 kb_61 ?_
    refine x_icmp_eq (x := sgV tp tn p1) (y := nI 61) (tgt := 37) dX12_compared_18 (by decide) (fun c18 => ?_) (fun c18 => ?_)
    · obtain ⟨x1, x2⟩ := sgV_c (c := 61) (by decide) hlt c18
      have hct := ct_f (tp := tp) (n := tn) (s := sumP tp tn s) (p := p1) (co := co1) (fun q0 => ⟨(hz1 q0).2.1, (hz1 q0).2.2.1, (hz1 q0).2.2.2.1⟩)
      refine x_aload_n dX12_compared_37 1 rfl ?_
      refine x_aload_n dX12_compared_38 1 rfl ?_
      refine x_get (v := .int (nI p1)) dX12_compared_39 fX12_190 (hM1.1) rfl ?_
      refine x_cVe (N := mX12_isCounted) (d' := 1) (mc := 0) (ms := 0) (cb := 0) (sb := 0) (As := [.int (nI p1)]) (st := []) dX12_compared_42 mX12_isCounted_v lX12_239 rfl rfl (hM1.1) rfl (by decide) (Nat.le_of_ble_eq_true rfl) (Md_isCounted (b := p1) hM1 hf1 (by omega)) rfl (sf := fun G2 => []) (fun _ => rfl) (fun G2 hM2 => ?_)
      refine x_aload_n dX12_compared_45 1 rfl ?_
      refine x_dup dX12_compared_46 rfl ?_
      refine x_get (v := .int (nI p1)) dX12_compared_47 fX12_190 (hM2.1) rfl ?_
      refine x_iconst dX12_compared_50 ki_1 ?_
      refine x_pc (pc' := 51) rfl ?_
      refine x_iaddN dX12_compared_51 ?_
      refine x_put (fs' := [.int (F 0), .ref (y + 1), .ref (y + 2), .ref (y + 3), .ref (y + 4), .ref (y + 5), .ref (y + 6), .ref (y + 7), .ref (y + 8), .ref (y + 9), .ref (y + 10), .ref (y + 11), .ref (y + 12), .ref (y + 13), .ref (y + 14), .ref (y + 15), .ref (y + 16), .ref (y + 17), .ref (y + 18), .ref (y + 19), .ref (y + 20), .ref (y + 21), .ref (y + 22), .ref (y + 23), .ref (y + 24), .ref (y + 25), .ref (y + 26), .int (nI tn), .int (nI (p1 + 1)), .int (nI (cfF (sumP tp tn s).1 co1 p1)), .int (nI sl), .int (F 31), .int (nI en1), .int (nI dd1), .int (nI (co1 + 1)), .int (nI op1), .int (nI 12), .ref (y + 27), .ref (y + 28), .ref (y + 29), .ref (y + 30), .ref (y + 31), .ref (y + 32), .ref (y + 33), .ref (y + 34), .ref (y + 35), .ref (y + 36), .ref (y + 37), .ref (y + 38), .int (F 49), .int (F 50), .int (F 51), .int (F 52), .int (F 53), .ref (y + 39), .ref (y + 40), .ref (y + 41), .int (F 57), .int (F 58), .ref (y + 42), .ref (y + 43), .ref (y + 44), .ref (y + 45), .int (F 63), .int (F 64)]) dX12_compared_52 fX12_190 (hM2.1) (Nat.le_of_ble_eq_true rfl) rfl rfl rfl ?_
      refine x_geq (G' := xup _ y (modO y (pF (upd F 36 (nI 12)) tn (p1 + 1) (cfF (sumP tp tn s).1 co1 p1) sl en1 dd1 (co1 + 1) op1))) rfl ?_
      have hM104 := hM2.fld (pF (upd F 36 (nI 12)) tn (p1 + 1) (cfF (sumP tp tn s).1 co1 p1) sl en1 dd1 (co1 + 1) op1)
      refine x_iload_n dX12_compared_55 0 rfl ?_
      refine x_bipush dX12_compared_56 kb_61 ?_
      refine x_icmp_eq (x := sgV tp tn p1) (y := nI 61) (tgt := 74) dX12_compared_58 (by decide) (fun c58 => ?_) (fun c58 => ?_)
      · refine x_iconst dX12_compared_74 ki_0 ?_
        refine x_istore_n (ls' := [(2, .int (nI 0)), (1, .int (sgV tp tn p1)), (0, .ref y)]) dX12_compared_75 (by decide) rfl ?_
        refine x_aload_n dX12_compared_76 2 rfl ?_
        refine x_dup dX12_compared_77 rfl ?_
        refine x_get (v := .int (nI (p1 + 1))) dX12_compared_78 fX12_190 (hM104.1) rfl ?_
        refine x_pc (pc' := 81) rfl ?_
        refine x_iload_n dX12_compared_81 0 rfl ?_
        refine x_ifN_eq (tgt := 89) dX12_compared_82 (by decide) (by omega) (fun c82 => ?_) (fun c82 => ?_)
        · refine x_iconst dX12_compared_89 ki_0 ?_
          refine x_iaddN dX12_compared_90 ?_
          refine x_put (fs' := [.int (F 0), .ref (y + 1), .ref (y + 2), .ref (y + 3), .ref (y + 4), .ref (y + 5), .ref (y + 6), .ref (y + 7), .ref (y + 8), .ref (y + 9), .ref (y + 10), .ref (y + 11), .ref (y + 12), .ref (y + 13), .ref (y + 14), .ref (y + 15), .ref (y + 16), .ref (y + 17), .ref (y + 18), .ref (y + 19), .ref (y + 20), .ref (y + 21), .ref (y + 22), .ref (y + 23), .ref (y + 24), .ref (y + 25), .ref (y + 26), .int (nI tn), .int (nI ((p1 + 1) + 0)), .int (nI (cfF (sumP tp tn s).1 co1 p1)), .int (nI sl), .int (F 31), .int (nI en1), .int (nI dd1), .int (nI (co1 + 1)), .int (nI op1), .int (nI 12), .ref (y + 27), .ref (y + 28), .ref (y + 29), .ref (y + 30), .ref (y + 31), .ref (y + 32), .ref (y + 33), .ref (y + 34), .ref (y + 35), .ref (y + 36), .ref (y + 37), .ref (y + 38), .int (F 49), .int (F 50), .int (F 51), .int (F 52), .int (F 53), .ref (y + 39), .ref (y + 40), .ref (y + 41), .int (F 57), .int (F 58), .ref (y + 42), .ref (y + 43), .ref (y + 44), .ref (y + 45), .int (F 63), .int (F 64)]) dX12_compared_91 fX12_190 (hM104.1) (Nat.le_of_ble_eq_true rfl) rfl rfl rfl ?_
          refine x_geq (G' := xup _ y (modO y (pF (upd F 36 (nI 12)) tn ((p1 + 1) + 0) (cfF (sumP tp tn s).1 co1 p1) sl en1 dd1 (co1 + 1) op1))) rfl ?_
          have hM105 := hM104.fld (pF (upd F 36 (nI 12)) tn ((p1 + 1) + 0) (cfF (sumP tp tn s).1 co1 p1) sl en1 dd1 (co1 + 1) op1)
          obtain ⟨t1, t2⟩ := sg_tok x1 x2 (by decide) (by decide)
          obtain ⟨t3, t4⟩ := t2 (by decide) (by decide)
          have hst : (sumP tp tn s).1 = 0 → stpP tp tn (sumP tp tn s) = some 9 := fun q0 => stp_c q0 (hz1 q0).2.1 t1 t3 rfl
          have hn : PR G0 _ y hl r sc A0 F wa sa tn tp sl (b + 1 + 1) de os (nextP tp tn (ctP tp tn (sumP tp tn s))) := PRs.step (s' := nextP tp tn (ctP tp tn (sumP tp tn s))) (by rw [show (nextP tp tn (ctP tp tn (sumP tp tn s))).1 = (cfF (sumP tp tn s).1 co1 p1) from hct]; exact hM105) (by rw [show (nextP tp tn (ctP tp tn (sumP tp tn s))).1 = (cfF (sumP tp tn s).1 co1 p1) from hct]; exact cfF_lt hf1 (by omega)) hK1 (by omega) (by omega) (fun q0 => cmp_hz hz1 t4 q0 (by omega))
          refine x_aload_n dX12_compared_94 2 rfl ?_
          refine x_cVe (N := mX12_sum) (d' := 7) (mc := 0) (ms := 0) (cb := 0) (sb := 0) (As := []) (st := []) dX12_compared_95 mX12_sum_v lX12_255 rfl rfl (hM105.1) rfl (by decide) (Nat.le_of_ble_eq_true rfl) (PR_sum (c0 := c0 + 3 + 6) hH hn (by omega) (Hb.next (Hb.ct (Hb.sumP hb)))) rfl (sf := fun G3 => []) (fun _ => rfl) (fun G3 hq3 => ?_)
          obtain ⟨hf3, A3, p3, co3, en3, dd3, op3, hM3, hK3, hp3, hc3, hz3⟩ := id hq3
          have hT3 : TpE (A3 27) tp := by rw [hK3.1 27 (by decide) (by decide) (by decide)]; exact hT
          refine x_aload_n dX12_compared_98 2 rfl ?_
          refine x_iload_n dX12_compared_99 1 rfl ?_
          refine x_bipush dX12_compared_100 kb_61 ?_
          refine x_pc (pc' := 102) rfl ?_
          refine x_icmp_ne (x := sgV tp tn p1) (y := nI 61) (tgt := 110) dX12_compared_102 (by decide) (fun c102 => ?_) (fun c102 => ?_)
          · exact absurd c18 c102
          · refine x_bipush dX12_compared_105 kb_6 ?_
            refine x_goto (tgt := 139) dX12_compared_107 (by decide) ?_
            refine x_iconst dX12_compared_139 ki_0 ?_
            refine x_cVe (N := mX12_entry) (d' := 0) (mc := 0) (ms := 0) (cb := 0) (sb := 0) (As := [.int (nI 6), .int (nI 0)]) (st := []) dX12_compared_140 mX12_entry_v lX12_242 rfl rfl (hM3.1) rfl (by decide) (Nat.le_of_ble_eq_true rfl) (PRs_entry (c := 9) hH hq3 (Hb.len htn (Hb.sumP (Hb.next (Hb.ct (Hb.sumP hb))))) (by decide)) rfl (sf := fun G4 => []) (fun _ => rfl) (fun G4 hq4 => ?_)
            obtain ⟨hf4, A4, p4, co4, en4, dd4, op4, hM4, hK4, hp4, hc4, hz4⟩ := id hq4
            have hT4 : TpE (A4 27) tp := by rw [hK4.1 27 (by decide) (by decide) (by decide)]; exact hT
            have hcy := cmp_y (tp := tp) (n := tn) (s := s) htn (fun q0 => (hb q0).1) hst (by decide)
            have hb9 := Hb.put (k := 9) (v := 0) (Hb.sumP (tp := tp) (Hb.next (tp := tp) (Hb.ct (tp := tp) (Hb.sumP (tp := tp) hb))))
            exact x_vret dX12_compared_143 rfl (xEx_i G4 ((PRs.to (fun q0 => (hb9 q0).1) hq4).cg hcy.1 hcy.2) rfl rfl rfl)
        · exact absurd c82 (by decide)
      · exact absurd c18 c58
    · refine x_iload_n dX12_compared_21 0 rfl ?_
      refine x_bipush dX12_compared_22 kb_62 ?_
      refine x_icmp_eq (x := sgV tp tn p1) (y := nI 62) (tgt := 37) dX12_compared_24 (by decide) (fun c24 => ?_) (fun c24 => ?_)
      · obtain ⟨x1, x2⟩ := sgV_c (c := 62) (by decide) hlt c24
        have hct := ct_f (tp := tp) (n := tn) (s := sumP tp tn s) (p := p1) (co := co1) (fun q0 => ⟨(hz1 q0).2.1, (hz1 q0).2.2.1, (hz1 q0).2.2.2.1⟩)
        refine x_aload_n dX12_compared_37 1 rfl ?_
        refine x_aload_n dX12_compared_38 1 rfl ?_
        refine x_get (v := .int (nI p1)) dX12_compared_39 fX12_190 (hM1.1) rfl ?_
        refine x_cVe (N := mX12_isCounted) (d' := 1) (mc := 0) (ms := 0) (cb := 0) (sb := 0) (As := [.int (nI p1)]) (st := []) dX12_compared_42 mX12_isCounted_v lX12_239 rfl rfl (hM1.1) rfl (by decide) (Nat.le_of_ble_eq_true rfl) (Md_isCounted (b := p1) hM1 hf1 (by omega)) rfl (sf := fun G2 => []) (fun _ => rfl) (fun G2 hM2 => ?_)
        refine x_aload_n dX12_compared_45 1 rfl ?_
        refine x_pc (pc' := 46) rfl ?_
        refine x_dup dX12_compared_46 rfl ?_
        refine x_get (v := .int (nI p1)) dX12_compared_47 fX12_190 (hM2.1) rfl ?_
        refine x_iconst dX12_compared_50 ki_1 ?_
        refine x_iaddN dX12_compared_51 ?_
        refine x_put (fs' := [.int (F 0), .ref (y + 1), .ref (y + 2), .ref (y + 3), .ref (y + 4), .ref (y + 5), .ref (y + 6), .ref (y + 7), .ref (y + 8), .ref (y + 9), .ref (y + 10), .ref (y + 11), .ref (y + 12), .ref (y + 13), .ref (y + 14), .ref (y + 15), .ref (y + 16), .ref (y + 17), .ref (y + 18), .ref (y + 19), .ref (y + 20), .ref (y + 21), .ref (y + 22), .ref (y + 23), .ref (y + 24), .ref (y + 25), .ref (y + 26), .int (nI tn), .int (nI (p1 + 1)), .int (nI (cfF (sumP tp tn s).1 co1 p1)), .int (nI sl), .int (F 31), .int (nI en1), .int (nI dd1), .int (nI (co1 + 1)), .int (nI op1), .int (nI 12), .ref (y + 27), .ref (y + 28), .ref (y + 29), .ref (y + 30), .ref (y + 31), .ref (y + 32), .ref (y + 33), .ref (y + 34), .ref (y + 35), .ref (y + 36), .ref (y + 37), .ref (y + 38), .int (F 49), .int (F 50), .int (F 51), .int (F 52), .int (F 53), .ref (y + 39), .ref (y + 40), .ref (y + 41), .int (F 57), .int (F 58), .ref (y + 42), .ref (y + 43), .ref (y + 44), .ref (y + 45), .int (F 63), .int (F 64)]) dX12_compared_52 fX12_190 (hM2.1) (Nat.le_of_ble_eq_true rfl) rfl rfl rfl ?_
        refine x_geq (G' := xup _ y (modO y (pF (upd F 36 (nI 12)) tn (p1 + 1) (cfF (sumP tp tn s).1 co1 p1) sl en1 dd1 (co1 + 1) op1))) rfl ?_
        have hM106 := hM2.fld (pF (upd F 36 (nI 12)) tn (p1 + 1) (cfF (sumP tp tn s).1 co1 p1) sl en1 dd1 (co1 + 1) op1)
        refine x_iload_n dX12_compared_55 0 rfl ?_
        refine x_bipush dX12_compared_56 kb_61 ?_
        refine x_icmp_eq (x := sgV tp tn p1) (y := nI 61) (tgt := 74) dX12_compared_58 (by decide) (fun c58 => ?_) (fun c58 => ?_)
        · exact absurd (c24.symm.trans c58) (by decide)
        · refine x_aload_n dX12_compared_61 1 rfl ?_
          refine x_cV (N := mX12_sign) (d' := 0) (mc := 0) (ms := 0) (cb := 0) (sb := 0) (As := []) (st := []) dX12_compared_62 mX12_sign_v lX12_193 rfl rfl (hM106.1) rfl (by decide) (Nat.le_of_ble_eq_true rfl) (Md_sign hT1 hlt htn hM106 (by omega)) rfl (st1 := [.int (sgV tp tn (p1 + 1))]) rfl ?_
          refine x_pc (pc' := 65) rfl ?_
          refine x_bipush dX12_compared_65 kb_61 ?_
          refine x_icmp_ne (x := sgV tp tn (p1 + 1)) (y := nI 61) (tgt := 74) dX12_compared_67 (by decide) (fun c67 => ?_) (fun c67 => ?_)
          · refine x_iconst dX12_compared_74 ki_0 ?_
            refine x_istore_n (ls' := [(2, .int (nI 0)), (1, .int (sgV tp tn p1)), (0, .ref y)]) dX12_compared_75 (by decide) rfl ?_
            refine x_aload_n dX12_compared_76 2 rfl ?_
            refine x_dup dX12_compared_77 rfl ?_
            refine x_get (v := .int (nI (p1 + 1))) dX12_compared_78 fX12_190 (hM106.1) rfl ?_
            refine x_iload_n dX12_compared_81 0 rfl ?_
            refine x_ifN_eq (tgt := 89) dX12_compared_82 (by decide) (by omega) (fun c82 => ?_) (fun c82 => ?_)
            · refine x_iconst dX12_compared_89 ki_0 ?_
              refine x_pc (pc' := 90) rfl ?_
              refine x_iaddN dX12_compared_90 ?_
              refine x_put (fs' := [.int (F 0), .ref (y + 1), .ref (y + 2), .ref (y + 3), .ref (y + 4), .ref (y + 5), .ref (y + 6), .ref (y + 7), .ref (y + 8), .ref (y + 9), .ref (y + 10), .ref (y + 11), .ref (y + 12), .ref (y + 13), .ref (y + 14), .ref (y + 15), .ref (y + 16), .ref (y + 17), .ref (y + 18), .ref (y + 19), .ref (y + 20), .ref (y + 21), .ref (y + 22), .ref (y + 23), .ref (y + 24), .ref (y + 25), .ref (y + 26), .int (nI tn), .int (nI ((p1 + 1) + 0)), .int (nI (cfF (sumP tp tn s).1 co1 p1)), .int (nI sl), .int (F 31), .int (nI en1), .int (nI dd1), .int (nI (co1 + 1)), .int (nI op1), .int (nI 12), .ref (y + 27), .ref (y + 28), .ref (y + 29), .ref (y + 30), .ref (y + 31), .ref (y + 32), .ref (y + 33), .ref (y + 34), .ref (y + 35), .ref (y + 36), .ref (y + 37), .ref (y + 38), .int (F 49), .int (F 50), .int (F 51), .int (F 52), .int (F 53), .ref (y + 39), .ref (y + 40), .ref (y + 41), .int (F 57), .int (F 58), .ref (y + 42), .ref (y + 43), .ref (y + 44), .ref (y + 45), .int (F 63), .int (F 64)]) dX12_compared_91 fX12_190 (hM106.1) (Nat.le_of_ble_eq_true rfl) rfl rfl rfl ?_
              refine x_geq (G' := xup _ y (modO y (pF (upd F 36 (nI 12)) tn ((p1 + 1) + 0) (cfF (sumP tp tn s).1 co1 p1) sl en1 dd1 (co1 + 1) op1))) rfl ?_
              have hM107 := hM106.fld (pF (upd F 36 (nI 12)) tn ((p1 + 1) + 0) (cfF (sumP tp tn s).1 co1 p1) sl en1 dd1 (co1 + 1) op1)
              obtain ⟨t1, -, t2⟩ := cmp_tok x1 x2 (by decide)
              obtain ⟨t4, t3⟩ := t2 (fun q0 => c67 (sgV_i q0.1 q0.2))
              have hst : (sumP tp tn s).1 = 0 → stpP tp tn (sumP tp tn s) = some 11 := fun q0 => stp_c q0 (hz1 q0).2.1 t1 t3 rfl
              have hn : PR G0 _ y hl r sc A0 F wa sa tn tp sl (b + 1 + 1) de os (nextP tp tn (ctP tp tn (sumP tp tn s))) := PRs.step (s' := nextP tp tn (ctP tp tn (sumP tp tn s))) (by rw [show (nextP tp tn (ctP tp tn (sumP tp tn s))).1 = (cfF (sumP tp tn s).1 co1 p1) from hct]; exact hM107) (by rw [show (nextP tp tn (ctP tp tn (sumP tp tn s))).1 = (cfF (sumP tp tn s).1 co1 p1) from hct]; exact cfF_lt hf1 (by omega)) hK1 (by omega) (by omega) (fun q0 => cmp_hz hz1 t4 q0 (by omega))
              refine x_aload_n dX12_compared_94 2 rfl ?_
              refine x_cVe (N := mX12_sum) (d' := 7) (mc := 0) (ms := 0) (cb := 0) (sb := 0) (As := []) (st := []) dX12_compared_95 mX12_sum_v lX12_255 rfl rfl (hM107.1) rfl (by decide) (Nat.le_of_ble_eq_true rfl) (PR_sum (c0 := c0 + 3 + 6) hH hn (by omega) (Hb.next (Hb.ct (Hb.sumP hb)))) rfl (sf := fun G3 => []) (fun _ => rfl) (fun G3 hq3 => ?_)
              obtain ⟨hf3, A3, p3, co3, en3, dd3, op3, hM3, hK3, hp3, hc3, hz3⟩ := id hq3
              have hT3 : TpE (A3 27) tp := by rw [hK3.1 27 (by decide) (by decide) (by decide)]; exact hT
              refine x_aload_n dX12_compared_98 2 rfl ?_
              refine x_iload_n dX12_compared_99 1 rfl ?_
              refine x_bipush dX12_compared_100 kb_61 ?_
              refine x_icmp_ne (x := sgV tp tn p1) (y := nI 61) (tgt := 110) dX12_compared_102 (by decide) (fun c102 => ?_) (fun c102 => ?_)
              · refine x_iload_n dX12_compared_110 1 rfl ?_
                refine x_bipush dX12_compared_111 kb_60 ?_
                refine x_pc (pc' := 113) rfl ?_
                refine x_icmp_ne (x := sgV tp tn p1) (y := nI 60) (tgt := 128) dX12_compared_113 (by decide) (fun c113 => ?_) (fun c113 => ?_)
                · refine x_iload_n dX12_compared_128 0 rfl ?_
                  refine x_ifN_eq (tgt := 137) dX12_compared_129 (by decide) (by omega) (fun c129 => ?_) (fun c129 => ?_)
                  · refine x_bipush dX12_compared_137 kb_8 ?_
                    refine x_iconst dX12_compared_139 ki_0 ?_
                    refine x_cVe (N := mX12_entry) (d' := 0) (mc := 0) (ms := 0) (cb := 0) (sb := 0) (As := [.int (nI 8), .int (nI 0)]) (st := []) dX12_compared_140 mX12_entry_v lX12_242 rfl rfl (hM3.1) rfl (by decide) (Nat.le_of_ble_eq_true rfl) (PRs_entry (c := 11) hH hq3 (Hb.len htn (Hb.sumP (Hb.next (Hb.ct (Hb.sumP hb))))) (by decide)) rfl (sf := fun G4 => []) (fun _ => rfl) (fun G4 hq4 => ?_)
                    obtain ⟨hf4, A4, p4, co4, en4, dd4, op4, hM4, hK4, hp4, hc4, hz4⟩ := id hq4
                    have hT4 : TpE (A4 27) tp := by rw [hK4.1 27 (by decide) (by decide) (by decide)]; exact hT
                    have hcy := cmp_y (tp := tp) (n := tn) (s := s) htn (fun q0 => (hb q0).1) hst (by decide)
                    have hb9 := Hb.put (k := 11) (v := 0) (Hb.sumP (tp := tp) (Hb.next (tp := tp) (Hb.ct (tp := tp) (Hb.sumP (tp := tp) hb))))
                    exact x_vret dX12_compared_143 rfl (xEx_i G4 ((PRs.to (fun q0 => (hb9 q0).1) hq4).cg hcy.1 hcy.2) rfl rfl rfl)
                  · exact absurd c129 (by decide)
                · exact absurd (c24.symm.trans c113) (by decide)
              · exact absurd (c24.symm.trans c102) (by decide)
            · exact absurd c82 (by decide)
          · refine x_iconst dX12_compared_70 ki_1 ?_
            refine x_goto (tgt := 75) dX12_compared_71 (by decide) ?_
            refine x_istore_n (ls' := [(2, .int (nI 1)), (1, .int (sgV tp tn p1)), (0, .ref y)]) dX12_compared_75 (by decide) rfl ?_
            refine x_aload_n dX12_compared_76 2 rfl ?_
            refine x_dup dX12_compared_77 rfl ?_
            refine x_get (v := .int (nI (p1 + 1))) dX12_compared_78 fX12_190 (hM106.1) rfl ?_
            refine x_iload_n dX12_compared_81 0 rfl ?_
            refine x_ifN_eq (tgt := 89) dX12_compared_82 (by decide) (by omega) (fun c82 => ?_) (fun c82 => ?_)
            · exact absurd c82 (by decide)
            · refine x_pc (pc' := 85) rfl ?_
              refine x_iconst dX12_compared_85 ki_1 ?_
              refine x_goto (tgt := 90) dX12_compared_86 (by decide) ?_
              refine x_iaddN dX12_compared_90 ?_
              refine x_put (fs' := [.int (F 0), .ref (y + 1), .ref (y + 2), .ref (y + 3), .ref (y + 4), .ref (y + 5), .ref (y + 6), .ref (y + 7), .ref (y + 8), .ref (y + 9), .ref (y + 10), .ref (y + 11), .ref (y + 12), .ref (y + 13), .ref (y + 14), .ref (y + 15), .ref (y + 16), .ref (y + 17), .ref (y + 18), .ref (y + 19), .ref (y + 20), .ref (y + 21), .ref (y + 22), .ref (y + 23), .ref (y + 24), .ref (y + 25), .ref (y + 26), .int (nI tn), .int (nI ((p1 + 1) + 1)), .int (nI (cfF (sumP tp tn s).1 co1 p1)), .int (nI sl), .int (F 31), .int (nI en1), .int (nI dd1), .int (nI (co1 + 1)), .int (nI op1), .int (nI 12), .ref (y + 27), .ref (y + 28), .ref (y + 29), .ref (y + 30), .ref (y + 31), .ref (y + 32), .ref (y + 33), .ref (y + 34), .ref (y + 35), .ref (y + 36), .ref (y + 37), .ref (y + 38), .int (F 49), .int (F 50), .int (F 51), .int (F 52), .int (F 53), .ref (y + 39), .ref (y + 40), .ref (y + 41), .int (F 57), .int (F 58), .ref (y + 42), .ref (y + 43), .ref (y + 44), .ref (y + 45), .int (F 63), .int (F 64)]) dX12_compared_91 fX12_190 (hM106.1) (Nat.le_of_ble_eq_true rfl) rfl rfl rfl ?_
              refine x_geq (G' := xup _ y (modO y (pF (upd F 36 (nI 12)) tn ((p1 + 1) + 1) (cfF (sumP tp tn s).1 co1 p1) sl en1 dd1 (co1 + 1) op1))) rfl ?_
              have hM108 := hM106.fld (pF (upd F 36 (nI 12)) tn ((p1 + 1) + 1) (cfF (sumP tp tn s).1 co1 p1) sl en1 dd1 (co1 + 1) op1)
              obtain ⟨v1, v2⟩ := sgV_c (c := 61) (by decide) hlt c67
              obtain ⟨t1, t2, -⟩ := cmp_tok x1 x2 (by decide)
              obtain ⟨t4, t3⟩ := t2 ⟨v1, v2⟩
              have hst : (sumP tp tn s).1 = 0 → stpP tp tn (sumP tp tn s) = some 10 := fun q0 => stp_c q0 (hz1 q0).2.1 t1 t3 rfl
              have hn : PR G0 _ y hl r sc A0 F wa sa tn tp sl (b + 1 + 1) de os (nextP tp tn (ctP tp tn (sumP tp tn s))) := PRs.step (s' := nextP tp tn (ctP tp tn (sumP tp tn s))) (by rw [show (nextP tp tn (ctP tp tn (sumP tp tn s))).1 = (cfF (sumP tp tn s).1 co1 p1) from hct]; exact hM108) (by rw [show (nextP tp tn (ctP tp tn (sumP tp tn s))).1 = (cfF (sumP tp tn s).1 co1 p1) from hct]; exact cfF_lt hf1 (by omega)) hK1 (by omega) (by omega) (fun q0 => cmp_hz hz1 t4 q0 (by omega))
              refine x_aload_n dX12_compared_94 2 rfl ?_
              refine x_cVe (N := mX12_sum) (d' := 7) (mc := 0) (ms := 0) (cb := 0) (sb := 0) (As := []) (st := []) dX12_compared_95 mX12_sum_v lX12_255 rfl rfl (hM108.1) rfl (by decide) (Nat.le_of_ble_eq_true rfl) (PR_sum (c0 := c0 + 3 + 6) hH hn (by omega) (Hb.next (Hb.ct (Hb.sumP hb)))) rfl (sf := fun G3 => []) (fun _ => rfl) (fun G3 hq3 => ?_)
              obtain ⟨hf3, A3, p3, co3, en3, dd3, op3, hM3, hK3, hp3, hc3, hz3⟩ := id hq3
              have hT3 : TpE (A3 27) tp := by rw [hK3.1 27 (by decide) (by decide) (by decide)]; exact hT
              refine x_aload_n dX12_compared_98 2 rfl ?_
              refine x_iload_n dX12_compared_99 1 rfl ?_
              refine x_bipush dX12_compared_100 kb_61 ?_
              refine x_icmp_ne (x := sgV tp tn p1) (y := nI 61) (tgt := 110) dX12_compared_102 (by decide) (fun c102 => ?_) (fun c102 => ?_)
              · refine x_pc (pc' := 110) rfl ?_
                refine x_iload_n dX12_compared_110 1 rfl ?_
                refine x_bipush dX12_compared_111 kb_60 ?_
                refine x_icmp_ne (x := sgV tp tn p1) (y := nI 60) (tgt := 128) dX12_compared_113 (by decide) (fun c113 => ?_) (fun c113 => ?_)
                · refine x_iload_n dX12_compared_128 0 rfl ?_
                  refine x_ifN_eq (tgt := 137) dX12_compared_129 (by decide) (by omega) (fun c129 => ?_) (fun c129 => ?_)
                  · exact absurd c129 (by decide)
                  · refine x_bipush dX12_compared_132 kb_7 ?_
                    refine x_goto (tgt := 139) dX12_compared_134 (by decide) ?_
                    refine x_iconst dX12_compared_139 ki_0 ?_
                    refine x_cVe (N := mX12_entry) (d' := 0) (mc := 0) (ms := 0) (cb := 0) (sb := 0) (As := [.int (nI 7), .int (nI 0)]) (st := []) dX12_compared_140 mX12_entry_v lX12_242 rfl rfl (hM3.1) rfl (by decide) (Nat.le_of_ble_eq_true rfl) (PRs_entry (c := 10) hH hq3 (Hb.len htn (Hb.sumP (Hb.next (Hb.ct (Hb.sumP hb))))) (by decide)) rfl (sf := fun G4 => []) (fun _ => rfl) (fun G4 hq4 => ?_)
                    obtain ⟨hf4, A4, p4, co4, en4, dd4, op4, hM4, hK4, hp4, hc4, hz4⟩ := id hq4
                    have hT4 : TpE (A4 27) tp := by rw [hK4.1 27 (by decide) (by decide) (by decide)]; exact hT
                    have hcy := cmp_y (tp := tp) (n := tn) (s := s) htn (fun q0 => (hb q0).1) hst (by decide)
                    have hb9 := Hb.put (k := 10) (v := 0) (Hb.sumP (tp := tp) (Hb.next (tp := tp) (Hb.ct (tp := tp) (Hb.sumP (tp := tp) hb))))
                    exact x_vret dX12_compared_143 rfl (xEx_i G4 ((PRs.to (fun q0 => (hb9 q0).1) hq4).cg hcy.1 hcy.2) rfl rfl rfl)
                · exact absurd (c24.symm.trans c113) (by decide)
              · exact absurd (c24.symm.trans c102) (by decide)
      · refine x_aload_n dX12_compared_27 1 rfl ?_
        refine x_iconst dX12_compared_28 ki_0 ?_
        refine x_aload_n dX12_compared_29 1 rfl ?_
        refine x_get (v := .int (nI p1)) dX12_compared_30 fX12_190 (hM1.1) rfl ?_
        refine x_cVe (N := mX12_fails) (d' := 0) (mc := 0) (ms := 0) (cb := 0) (sb := 0) (As := [.int (nI 0), .int (nI p1)]) (st := []) dX12_compared_33 mX12_fails_v lX12_226 rfl rfl (hM1.1) rfl (by decide) (Nat.le_of_ble_eq_true rfl) (PR_failsX (de := de) (os := os) hM1 htn hf1 hK1 hp1 hc1 (fun q0 => (hz1 q0).2.1) (by decide)) rfl (sf := fun G2 => []) (fun _ => rfl) (fun G2 hq2 => ?_)
        obtain ⟨hf2, A2, p2, co2, en2, dd2, op2, hM2, hK2, hp2, hc2, hz2⟩ := id hq2
        have hT2 : TpE (A2 27) tp := by rw [hK2.1 27 (by decide) (by decide) (by decide)]; exact hT
        refine x_pc (pc' := 36) rfl ?_
        exact x_vret dX12_compared_36 rfl (xEx_i G2 (by rw [cmp_n htn hlt (fun q0 => (hb q0).1) (fun q0 => (hz1 q0).2.1) (fun q0 => c12 (sgV_i q0.1 q0.2)) (fun q0 => c18 (sgV_i q0.1 q0.2)) (fun q0 => c24 (sgV_i q0.1 q0.2))]; exact hq2.wk (by omega)) rfl rfl rfl)
