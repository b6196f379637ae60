theorem Md_deep9 {K : xG} {h y : Nat} {G0 G : xHp} {hl : xHl} {r : xRw} {sc : Nat × Nat × Int32} {A : Nat → Nat → Int32} {F : Nat → Int32} {wa sa : Nat → Int64} {tn p f sl en co op : Nat} (hM : MW G0 G y hl r sc A (pF (upd F 36 (nI 12)) tn p f sl en 10 co op) wa sa) (hf9 : f < 1000000) (hop : op < 402) : xCall K mX12_opens 1 0 0 [.ref y, .int (nI 9)] h G (mdQ G0 h y none hl r sc (setA A 34 (upd (A 34) op (nI 9))) (pF (upd F 36 (nI 12)) tn p (flt f 2 p) sl en (10 + 1) co (op + 1)) wa sa) := by
  refine x_entry (by decide) (ls := [(0, .ref y), (1, .int (nI 9))]) rfl (Nat.le_of_ble_eq_true rfl) ?_
  refine x_iload_n dX12_opens_0 1 rfl ?_
  refine x_bipush dX12_opens_1 kb_9 ?_
  refine x_icmpN_eq (tgt := 12) dX12_opens_3 (by decide) (by omega) (by omega) (fun c3 => ?_) (fun c3 => ?_)
  · refine x_aload_n dX12_opens_12 0 rfl ?_
    refine x_get (v := .int (nI 10)) dX12_opens_13 fX12_261 (hM.1) rfl ?_
    refine x_bipush dX12_opens_16 kb_10 ?_
    refine x_icmpN_ne (tgt := 30) dX12_opens_18 (by decide) (by omega) (by omega) (fun c18 => ?_) (fun c18 => ?_)
    · exact absurd c18 (by decide)
    · refine x_aload_n dX12_opens_21 0 rfl ?_
      refine x_iconst dX12_opens_22 ki_2 ?_
      refine x_pc (pc' := 23) rfl ?_
      refine x_aload_n dX12_opens_23 0 rfl ?_
      refine x_get (v := .int (nI p)) dX12_opens_24 fX12_190 (hM.1) rfl ?_
      refine x_cVe (N := mX12_fails) (d' := 0) (mc := 0) (ms := 0) (cb := 0) (sb := 0) (As := [.int (nI 2), .int (nI p)]) (st := []) dX12_opens_27 mX12_fails_v lX12_226 rfl rfl (hM.1) rfl (by decide) (Nat.le_of_ble_eq_true rfl) (Md_fails hM hf9) rfl (sf := fun G2 => []) (fun _ => rfl) (fun G2 hN2 => ?_)
      refine x_aload_n dX12_opens_30 0 rfl ?_
      refine x_dup dX12_opens_31 rfl ?_
      refine x_get (v := .int (nI 10)) dX12_opens_32 fX12_261 (hN2.1) rfl ?_
      refine x_iconst dX12_opens_35 ki_1 ?_
      refine x_iaddN dX12_opens_36 ?_
      refine x_put (fs' := [.int (F 0), .ref (y + 1), .ref (y + 2), .ref (y + 3), .ref (y + 4), .ref (y + 5), .ref (y + 6), .ref (y + 7), .ref (y + 8), .ref (y + 9), .ref (y + 10), .ref (y + 11), .ref (y + 12), .ref (y + 13), .ref (y + 14), .ref (y + 15), .ref (y + 16), .ref (y + 17), .ref (y + 18), .ref (y + 19), .ref (y + 20), .ref (y + 21), .ref (y + 22), .ref (y + 23), .ref (y + 24), .ref (y + 25), .ref (y + 26), .int (nI tn), .int (nI p), .int (nI (flt f 2 p)), .int (nI sl), .int (F 31), .int (nI en), .int (nI 11), .int (nI co), .int (nI op), .int (nI 12), .ref (y + 27), .ref (y + 28), .ref (y + 29), .ref (y + 30), .ref (y + 31), .ref (y + 32), .ref (y + 33), .ref (y + 34), .ref (y + 35), .ref (y + 36), .ref (y + 37), .ref (y + 38), .int (F 49), .int (F 50), .int (F 51), .int (F 52), .int (F 53), .ref (y + 39), .ref (y + 40), .ref (y + 41), .int (F 57), .int (F 58), .ref (y + 42), .ref (y + 43), .ref (y + 44), .ref (y + 45), .int (F 63), .int (F 64)]) dX12_opens_37 fX12_261 (hN2.1) (Nat.le_of_ble_eq_true rfl) rfl rfl rfl ?_
      refine x_geq (G' := xup _ y (modO y (pF (upd F 36 (nI 12)) tn p (flt f 2 p) sl en 11 co op))) rfl ?_
      have hM101 := hN2.fld (pF (upd F 36 (nI 12)) tn p (flt f 2 p) sl en 11 co op)
      refine x_aload_n dX12_opens_40 0 rfl ?_
      refine x_pc (pc' := 41) rfl ?_
      refine x_get (v := .ref (y + 34)) dX12_opens_41 fX12_114 (hM101.1) rfl ?_
      refine x_aload_n dX12_opens_44 0 rfl ?_
      refine x_get (v := .int (nI op)) dX12_opens_45 fX12_258 (hM101.1) rfl ?_
      refine x_iload_n dX12_opens_48 1 rfl ?_
      refine x_iastN (n := 402) (f := A 34) dX12_opens_49 (hM101.c34) (by omega) (by decide) ?_
      have hM102 := hM101.a34 (upd (A 34) op (nI 9))
      refine x_aload_n dX12_opens_50 0 rfl ?_
      refine x_dup dX12_opens_51 rfl ?_
      refine x_get (v := .int (nI op)) dX12_opens_52 fX12_258 (hM102.1) rfl ?_
      refine x_iconst dX12_opens_55 ki_1 ?_
      refine x_iaddN dX12_opens_56 ?_
      refine x_pc (pc' := 57) rfl ?_
      refine x_put (fs' := [.int (F 0), .ref (y + 1), .ref (y + 2), .ref (y + 3), .ref (y + 4), .ref (y + 5), .ref (y + 6), .ref (y + 7), .ref (y + 8), .ref (y + 9), .ref (y + 10), .ref (y + 11), .ref (y + 12), .ref (y + 13), .ref (y + 14), .ref (y + 15), .ref (y + 16), .ref (y + 17), .ref (y + 18), .ref (y + 19), .ref (y + 20), .ref (y + 21), .ref (y + 22), .ref (y + 23), .ref (y + 24), .ref (y + 25), .ref (y + 26), .int (nI tn), .int (nI p), .int (nI (flt f 2 p)), .int (nI sl), .int (F 31), .int (nI en), .int (nI 11), .int (nI co), .int (nI (op + 1)), .int (nI 12), .ref (y + 27), .ref (y + 28), .ref (y + 29), .ref (y + 30), .ref (y + 31), .ref (y + 32), .ref (y + 33), .ref (y + 34), .ref (y + 35), .ref (y + 36), .ref (y + 37), .ref (y + 38), .int (F 49), .int (F 50), .int (F 51), .int (F 52), .int (F 53), .ref (y + 39), .ref (y + 40), .ref (y + 41), .int (F 57), .int (F 58), .ref (y + 42), .ref (y + 43), .ref (y + 44), .ref (y + 45), .int (F 63), .int (F 64)]) dX12_opens_57 fX12_258 (hM102.1) (Nat.le_of_ble_eq_true rfl) rfl rfl rfl ?_
      refine x_geq (G' := xup _ y (modO y (pF (upd F 36 (nI 12)) tn p (flt f 2 p) sl en 11 co (op + 1)))) rfl ?_
      have hM103 := hM102.fld (pF (upd F 36 (nI 12)) tn p (flt f 2 p) sl en 11 co (op + 1))
      exact x_vret dX12_opens_60 rfl (xEx_i _ hM103 rfl rfl rfl)
  · exact absurd c3 (by decide)
theorem Md_deep12 {K : xG} {h y : Nat} {G0 G : xHp} {hl : xHl} {r : xRw} {sc : Nat × Nat × Int32} {A : Nat → Nat → Int32} {F : Nat → Int32} {wa sa : Nat → Int64} {tn p f sl en co op : Nat} (hM : MW G0 G y hl r sc A (pF (upd F 36 (nI 12)) tn p f sl en 10 co op) wa sa) (hf9 : f < 1000000) (hop : op < 402) : xCall K mX12_opens 1 0 0 [.ref y, .int (nI 12)] h G (mdQ G0 h y none hl r sc (setA A 34 (upd (A 34) op (nI 12))) (pF (upd F 36 (nI 12)) tn p (flt f 2 p) sl en (10 + 1) co (op + 1)) wa sa) := by
  refine x_entry (by decide) (ls := [(0, .ref y), (1, .int (nI 12))]) rfl (Nat.le_of_ble_eq_true rfl) ?_
  refine x_iload_n dX12_opens_0 1 rfl ?_
  refine x_bipush dX12_opens_1 kb_9 ?_
  refine x_icmpN_eq (tgt := 12) dX12_opens_3 (by decide) (by omega) (by omega) (fun c3 => ?_) (fun c3 => ?_)
  · exact absurd c3 (by decide)
  · refine x_iload_n dX12_opens_6 1 rfl ?_
    refine x_bipush dX12_opens_7 kb_12 ?_
    refine x_icmpN_ne (tgt := 40) dX12_opens_9 (by decide) (by omega) (by omega) (fun c9 => ?_) (fun c9 => ?_)
    · exact absurd c9 (by decide)
    · refine x_aload_n dX12_opens_12 0 rfl ?_
      refine x_get (v := .int (nI 10)) dX12_opens_13 fX12_261 (hM.1) rfl ?_
      refine x_bipush dX12_opens_16 kb_10 ?_
      refine x_pc (pc' := 18) rfl ?_
      refine x_icmpN_ne (tgt := 30) dX12_opens_18 (by decide) (by omega) (by omega) (fun c18 => ?_) (fun c18 => ?_)
      · exact absurd c18 (by decide)
      · refine x_aload_n dX12_opens_21 0 rfl ?_
        refine x_iconst dX12_opens_22 ki_2 ?_
        refine x_aload_n dX12_opens_23 0 rfl ?_
        refine x_get (v := .int (nI p)) dX12_opens_24 fX12_190 (hM.1) rfl ?_
        refine x_cVe (N := mX12_fails) (d' := 0) (mc := 0) (ms := 0) (cb := 0) (sb := 0) (As := [.int (nI 2), .int (nI p)]) (st := []) dX12_opens_27 mX12_fails_v lX12_226 rfl rfl (hM.1) rfl (by decide) (Nat.le_of_ble_eq_true rfl) (Md_fails hM hf9) rfl (sf := fun G2 => []) (fun _ => rfl) (fun G2 hN2 => ?_)
        refine x_aload_n dX12_opens_30 0 rfl ?_
        refine x_dup dX12_opens_31 rfl ?_
        refine x_get (v := .int (nI 10)) dX12_opens_32 fX12_261 (hN2.1) rfl ?_
        refine x_iconst dX12_opens_35 ki_1 ?_
        refine x_pc (pc' := 36) rfl ?_
        refine x_iaddN dX12_opens_36 ?_
        refine x_put (fs' := [.int (F 0), .ref (y + 1), .ref (y + 2), .ref (y + 3), .ref (y + 4), .ref (y + 5), .ref (y + 6), .ref (y + 7), .ref (y + 8), .ref (y + 9), .ref (y + 10), .ref (y + 11), .ref (y + 12), .ref (y + 13), .ref (y + 14), .ref (y + 15), .ref (y + 16), .ref (y + 17), .ref (y + 18), .ref (y + 19), .ref (y + 20), .ref (y + 21), .ref (y + 22), .ref (y + 23), .ref (y + 24), .ref (y + 25), .ref (y + 26), .int (nI tn), .int (nI p), .int (nI (flt f 2 p)), .int (nI sl), .int (F 31), .int (nI en), .int (nI 11), .int (nI co), .int (nI op), .int (nI 12), .ref (y + 27), .ref (y + 28), .ref (y + 29), .ref (y + 30), .ref (y + 31), .ref (y + 32), .ref (y + 33), .ref (y + 34), .ref (y + 35), .ref (y + 36), .ref (y + 37), .ref (y + 38), .int (F 49), .int (F 50), .int (F 51), .int (F 52), .int (F 53), .ref (y + 39), .ref (y + 40), .ref (y + 41), .int (F 57), .int (F 58), .ref (y + 42), .ref (y + 43), .ref (y + 44), .ref (y + 45), .int (F 63), .int (F 64)]) dX12_opens_37 fX12_261 (hN2.1) (Nat.le_of_ble_eq_true rfl) rfl rfl rfl ?_
        refine x_geq (G' := xup _ y (modO y (pF (upd F 36 (nI 12)) tn p (flt f 2 p) sl en 11 co op))) rfl ?_
        have hM101 := hN2.fld (pF (upd F 36 (nI 12)) tn p (flt f 2 p) sl en 11 co op)
        refine x_aload_n dX12_opens_40 0 rfl ?_
        refine x_get (v := .ref (y + 34)) dX12_opens_41 fX12_114 (hM101.1) rfl ?_
        refine x_aload_n dX12_opens_44 0 rfl ?_
        refine x_get (v := .int (nI op)) dX12_opens_45 fX12_258 (hM101.1) rfl ?_
        refine x_iload_n dX12_opens_48 1 rfl ?_
        refine x_iastN (n := 402) (f := A 34) dX12_opens_49 (hM101.c34) (by omega) (by decide) ?_
        have hM102 := hM101.a34 (upd (A 34) op (nI 12))
        refine x_aload_n dX12_opens_50 0 rfl ?_
        refine x_dup dX12_opens_51 rfl ?_
        refine x_pc (pc' := 52) rfl ?_
        refine x_get (v := .int (nI op)) dX12_opens_52 fX12_258 (hM102.1) rfl ?_
        refine x_iconst dX12_opens_55 ki_1 ?_
        refine x_iaddN dX12_opens_56 ?_
        refine x_put (fs' := [.int (F 0), .ref (y + 1), .ref (y + 2), .ref (y + 3), .ref (y + 4), .ref (y + 5), .ref (y + 6), .ref (y + 7), .ref (y + 8), .ref (y + 9), .ref (y + 10), .ref (y + 11), .ref (y + 12), .ref (y + 13), .ref (y + 14), .ref (y + 15), .ref (y + 16), .ref (y + 17), .ref (y + 18), .ref (y + 19), .ref (y + 20), .ref (y + 21), .ref (y + 22), .ref (y + 23), .ref (y + 24), .ref (y + 25), .ref (y + 26), .int (nI tn), .int (nI p), .int (nI (flt f 2 p)), .int (nI sl), .int (F 31), .int (nI en), .int (nI 11), .int (nI co), .int (nI (op + 1)), .int (nI 12), .ref (y + 27), .ref (y + 28), .ref (y + 29), .ref (y + 30), .ref (y + 31), .ref (y + 32), .ref (y + 33), .ref (y + 34), .ref (y + 35), .ref (y + 36), .ref (y + 37), .ref (y + 38), .int (F 49), .int (F 50), .int (F 51), .int (F 52), .int (F 53), .ref (y + 39), .ref (y + 40), .ref (y + 41), .int (F 57), .int (F 58), .ref (y + 42), .ref (y + 43), .ref (y + 44), .ref (y + 45), .int (F 63), .int (F 64)]) dX12_opens_57 fX12_258 (hM102.1) (Nat.le_of_ble_eq_true rfl) rfl rfl rfl ?_
        refine x_geq (G' := xup _ y (modO y (pF (upd F 36 (nI 12)) tn p (flt f 2 p) sl en 11 co (op + 1)))) rfl ?_
        have hM103 := hM102.fld (pF (upd F 36 (nI 12)) tn p (flt f 2 p) sl en 11 co (op + 1))
        exact x_vret dX12_opens_60 rfl (xEx_i _ hM103 rfl rfl rfl)
theorem PR_fact1 {K : xG} {h y : Nat} {G0 G : xHp} {hl : xHl} {r : xRw} {sc : Nat × Nat × Int32} {A0 : Nat → Nat → Int32} {F : Nat → Int32} {wa sa : Nat → Int64} {tn : Nat} {tp : Nat → Nat} {sl b : Nat} {os : List Nat} {s : xPS} {c0 : Nat} (hH : PH A0 tp tn sl) (hR : PR G0 G y hl r sc A0 F wa sa tn tp sl b (dpt os) os s) (h0 : s.1 = 0) (hb5 : b < 400) (hb : Hb tn c0 s) (hol : os.length < 402) (hdp : dpt os < 10) : xCall K mX12_fact 9 0 0 [.ref y] h G (xEx (fun G' => PR G0 G' y hl r sc A0 F wa sa tn tp sl (b + 3) (dpt (fcP tp tn os s).2.1) ((fcP tp tn os s).2.1) ((fcP tp tn os s).2.2)) (fun _ => some (.int (bI (fcP tp tn os s).1))) (fun _ => h) (fun G' => G')) := by
  refine x_entry (by decide) (ls := [(0, .ref y)]) rfl (Nat.le_of_ble_eq_true rfl) ?_
  obtain ⟨hT, hlt, htn, hs6⟩ := id hH
  obtain ⟨hf9, A9, p9, co9, en9, dd9, op9, hM9, hK9, hp9, hc9, hz9⟩ := id hR
  have hT9 : TpE (A9 27) tp := by rw [hK9.1 27 (by decide) (by decide) (by decide)]; exact hT
  refine x_aload_n dX12_fact_0 0 rfl ?_
  refine x_cVe (N := mX12_blanks) (d' := 1) (mc := 0) (ms := 0) (cb := 0) (sb := 0) (As := []) (st := []) dX12_fact_1 mX12_blanks_v lX12_210 rfl rfl (hM9.1) rfl (by decide) (Nat.le_of_ble_eq_true rfl) (PR_blanks hH hR) rfl (sf := fun G1 => []) (fun _ => rfl) (fun G1 hq1 => ?_)
  obtain ⟨hf1, A1, p1, co1, en1, dd1, op1, hM1, hK1, hp1, hc1, hz1⟩ := id hq1
  have hT1 : TpE (A1 27) tp := by rw [hK1.1 27 (by decide) (by decide) (by decide)]; exact hT
  obtain ⟨z1, z2, z3, z4, z5, z6, z7, z8, z9⟩ := hz1 h0
  have hw5 : isW tp tn s 5 = stB tp tn p1 19 := isW_at (by decide) (by decide) (by decide) wl_e5 h0 z2
  have hs91 := isS_sg (c := 91) h0 z2 hlt (by decide)
  refine x_aload_n dX12_fact_4 0 rfl ?_
  refine x_ldcwS 19 (by decide) rfl rfl dX12_fact_5 ?_
  refine x_cV (N := mX12_stood) (d' := 4) (mc := 0) (ms := 0) (cb := 0) (sb := 0) (As := [.ref (K.2.2.2.2.1 19)]) (st := []) dX12_fact_8 mX12_stood_v lX12_213 rfl rfl (hM1.1) rfl (by decide) (Nat.le_of_ble_eq_true rfl) (Md_stood (i := 19) hT1 hlt htn hM1 (by decide) (by omega)) rfl (st1 := [.int (bI (stB tp tn p1 19))]) rfl ?_
  refine x_ifB_eq (tgt := 32) dX12_fact_11 (by decide) (fun c11 => ?_) (fun c11 => ?_)
  · refine x_aload_n dX12_fact_32 0 rfl ?_
    refine x_cV (N := mX12_sign) (d' := 0) (mc := 0) (ms := 0) (cb := 0) (sb := 0) (As := []) (st := []) dX12_fact_33 mX12_sign_v lX12_193 rfl rfl (hM1.1) rfl (by decide) (Nat.le_of_ble_eq_true rfl) (Md_sign hT1 hlt htn hM1 (by omega)) rfl (st1 := [.int (sgV tp tn p1)]) rfl ?_
    refine x_bipush dX12_fact_36 kb_91 ?_
    refine x_pc (pc' := 38) rfl ?_
    refine x_icmp_ne (x := sgV tp tn p1) (y := nI 91) (tgt := 59) dX12_fact_38 (by decide) (fun c38 => ?_) (fun c38 => ?_)
    · refine x_aload_n dX12_fact_59 0 rfl ?_
      refine x_cVe (N := mX12_compared) (d' := 8) (mc := 0) (ms := 0) (cb := 0) (sb := 0) (As := []) (st := []) dX12_fact_60 mX12_compared_v lX12_272 rfl rfl (hM1.1) rfl (by decide) (Nat.le_of_ble_eq_true rfl) (PR_compared (c0 := c0) hH (PRs.to (fun q0 => (hb q0).1) hq1) hb5 hb) rfl (sf := fun G3 => []) (fun _ => rfl) (fun G3 hq3 => ?_)
      obtain ⟨hf3, A3, p3, co3, en3, dd3, op3, hM3, hK3, hp3, hc3, hz3⟩ := id hq3
      have hT3 : TpE (A3 27) tp := by rw [hK3.1 27 (by decide) (by decide) (by decide)]; exact hT
      refine x_iconst dX12_fact_63 ki_1 ?_
      have hi5 : isW tp tn s 5 = false := hw5.trans c11
      have hi6 : isS tp tn s.1 s.2.1 91 = false := by rcases hq0 : isS tp tn s.1 s.2.1 91 with _ | _; rfl; exact absurd (hs91.mp hq0) c38
      have hfc := fc_cmp (os := os) hi5 hi6
      exact x_zret dX12_fact_64 rfl (by first | rfl | decide | exact bI_nar _) (xEx_i G3 (by rw [hfc]; exact hq3) (by rw [hfc]; rfl) rfl rfl)
    · refine x_aload_n dX12_fact_41 0 rfl ?_
      refine x_bipush dX12_fact_42 kb_12 ?_
      refine x_cVe (N := mX12_opens) (d' := 1) (mc := 0) (ms := 0) (cb := 0) (sb := 0) (As := [.int (nI 12)]) (st := []) dX12_fact_44 mX12_opens_v lX12_269 rfl rfl (hM1.1) rfl (by decide) (Nat.le_of_ble_eq_true rfl) (PRs_opens12 htn hq1 h0 hol hdp) rfl (sf := fun G2 => []) (fun _ => rfl) (fun G2 hq2 => ?_)
      obtain ⟨hf2, A2, p2, co2, en2, dd2, op2, hM2, hK2, hp2, hc2, hz2⟩ := id hq2
      have hT2 : TpE (A2 27) tp := by rw [hK2.1 27 (by decide) (by decide) (by decide)]; exact hT
      obtain ⟨w1, w2, w3, w4, w5, w6, w7, w8, w9⟩ := hz2 h0
      refine x_aload_n dX12_fact_47 0 rfl ?_
      refine x_dup dX12_fact_48 rfl ?_
      refine x_get (v := .int (nI p2)) dX12_fact_49 fX12_190 (hM2.1) rfl ?_
      refine x_iconst dX12_fact_52 ki_1 ?_
      refine x_iaddN dX12_fact_53 ?_
      refine x_put (fs' := [.int (F 0), .ref (y + 1), .ref (y + 2), .ref (y + 3), .ref (y + 4), .ref (y + 5), .ref (y + 6), .ref (y + 7), .ref (y + 8), .ref (y + 9), .ref (y + 10), .ref (y + 11), .ref (y + 12), .ref (y + 13), .ref (y + 14), .ref (y + 15), .ref (y + 16), .ref (y + 17), .ref (y + 18), .ref (y + 19), .ref (y + 20), .ref (y + 21), .ref (y + 22), .ref (y + 23), .ref (y + 24), .ref (y + 25), .ref (y + 26), .int (nI tn), .int (nI (p2 + 1)), .int (nI ((s).1)), .int (nI sl), .int (F 31), .int (nI en2), .int (nI dd2), .int (nI co2), .int (nI op2), .int (nI 12), .ref (y + 27), .ref (y + 28), .ref (y + 29), .ref (y + 30), .ref (y + 31), .ref (y + 32), .ref (y + 33), .ref (y + 34), .ref (y + 35), .ref (y + 36), .ref (y + 37), .ref (y + 38), .int (F 49), .int (F 50), .int (F 51), .int (F 52), .int (F 53), .ref (y + 39), .ref (y + 40), .ref (y + 41), .int (F 57), .int (F 58), .ref (y + 42), .ref (y + 43), .ref (y + 44), .ref (y + 45), .int (F 63), .int (F 64)]) dX12_fact_54 fX12_190 (hM2.1) (Nat.le_of_ble_eq_true rfl) rfl rfl rfl ?_
      refine x_geq (G' := xup _ y (modO y (pF (upd F 36 (nI 12)) tn (p2 + 1) ((s).1) sl en2 dd2 co2 op2))) rfl ?_
      have hM101 := hM2.fld (pF (upd F 36 (nI 12)) tn (p2 + 1) ((s).1) sl en2 dd2 co2 op2)
      refine x_pc (pc' := 57) rfl ?_
      refine x_iconst dX12_fact_57 ki_0 ?_
      have hx := sg_at (tp := tp) (n := tn) hlt (c := 91) (by decide) c38
      have hi5 : isW tp tn s 5 = false := hw5.trans c11
      have hi6 := hs91.mpr c38
      have hfc := fc_br (os := os) hi5 hi6 hdp
      have hnx : (nextP tp tn s).2.1 = p1 + 1 := by show atA tp tn (skP tp tn s.2.1) = _; rw [← z2]; exact hx.2
      have hp12 : p2 = p1 := w2.trans z2.symm
      have hn : PR G0 _ y hl r sc A0 F wa sa tn tp sl (b + 3) (dpt (12 :: os)) (12 :: os) (nextP tp tn s) := PRs.step (s' := nextP tp tn s) hM101 hf1 hK2 (by omega) (by omega) (fun q0 => ⟨by omega, by rw [hnx, hp12], w3, w4, w5, w6, w7, w8, w9⟩)
      exact x_zret dX12_fact_58 rfl (by first | rfl | decide | exact bI_nar _) (xEx_i _ (by rw [hfc]; exact hn) (by rw [hfc]; rfl) rfl rfl)
  · refine x_aload_n dX12_fact_14 0 rfl ?_
    refine x_bipush dX12_fact_15 kb_9 ?_
    refine x_cVe (N := mX12_opens) (d' := 1) (mc := 0) (ms := 0) (cb := 0) (sb := 0) (As := [.int (nI 9)]) (st := []) dX12_fact_17 mX12_opens_v lX12_269 rfl rfl (hM1.1) rfl (by decide) (Nat.le_of_ble_eq_true rfl) (PRs_opens9 htn hq1 h0 hol hdp) rfl (sf := fun G2 => []) (fun _ => rfl) (fun G2 hq2 => ?_)
    obtain ⟨hf2, A2, p2, co2, en2, dd2, op2, hM2, hK2, hp2, hc2, hz2⟩ := id hq2
    have hT2 : TpE (A2 27) tp := by rw [hK2.1 27 (by decide) (by decide) (by decide)]; exact hT
    obtain ⟨w1, w2, w3, w4, w5, w6, w7, w8, w9⟩ := hz2 h0
    refine x_pc (pc' := 20) rfl ?_
    refine x_aload_n dX12_fact_20 0 rfl ?_
    refine x_dup dX12_fact_21 rfl ?_
    refine x_get (v := .int (nI p2)) dX12_fact_22 fX12_190 (hM2.1) rfl ?_
    refine x_iconst dX12_fact_25 ki_3 ?_
    refine x_iaddN dX12_fact_26 ?_
    refine x_put (fs' := [.int (F 0), .ref (y + 1), .ref (y + 2), .ref (y + 3), .ref (y + 4), .ref (y + 5), .ref (y + 6), .ref (y + 7), .ref (y + 8), .ref (y + 9), .ref (y + 10), .ref (y + 11), .ref (y + 12), .ref (y + 13), .ref (y + 14), .ref (y + 15), .ref (y + 16), .ref (y + 17), .ref (y + 18), .ref (y + 19), .ref (y + 20), .ref (y + 21), .ref (y + 22), .ref (y + 23), .ref (y + 24), .ref (y + 25), .ref (y + 26), .int (nI tn), .int (nI (p2 + 3)), .int (nI ((s).1)), .int (nI sl), .int (F 31), .int (nI en2), .int (nI dd2), .int (nI co2), .int (nI op2), .int (nI 12), .ref (y + 27), .ref (y + 28), .ref (y + 29), .ref (y + 30), .ref (y + 31), .ref (y + 32), .ref (y + 33), .ref (y + 34), .ref (y + 35), .ref (y + 36), .ref (y + 37), .ref (y + 38), .int (F 49), .int (F 50), .int (F 51), .int (F 52), .int (F 53), .ref (y + 39), .ref (y + 40), .ref (y + 41), .int (F 57), .int (F 58), .ref (y + 42), .ref (y + 43), .ref (y + 44), .ref (y + 45), .int (F 63), .int (F 64)]) dX12_fact_27 fX12_190 (hM2.1) (Nat.le_of_ble_eq_true rfl) rfl rfl rfl ?_
    refine x_geq (G' := xup _ y (modO y (pF (upd F 36 (nI 12)) tn (p2 + 3) ((s).1) sl en2 dd2 co2 op2))) rfl ?_
    have hM102 := hM2.fld (pF (upd F 36 (nI 12)) tn (p2 + 3) ((s).1) sl en2 dd2 co2 op2)
    refine x_iconst dX12_fact_30 ki_0 ?_
    have hx := st_at (tp := tp) (n := tn) (by decide) xl_19 c11
    have hi5 : isW tp tn s 5 = true := hw5.trans c11
    have hfc := fc_not (os := os) hi5 hdp
    have hnx : (nextP tp tn s).2.1 = p1 + 3 := by show atA tp tn (skP tp tn s.2.1) = _; rw [← z2]; exact hx.2
    have hp12 : p2 = p1 := w2.trans z2.symm
    have hn : PR G0 _ y hl r sc A0 F wa sa tn tp sl (b + 3) (dpt (9 :: os)) (9 :: os) (nextP tp tn s) := PRs.step (s' := nextP tp tn s) hM102 hf1 hK2 (by omega) (by omega) (fun q0 => ⟨by omega, by rw [hnx, hp12], w3, w4, w5, w6, w7, w8, w9⟩)
    exact x_zret dX12_fact_31 rfl (by first | rfl | decide | exact bI_nar _) (xEx_i _ (by rw [hfc]; exact hn) (by rw [hfc]; rfl) rfl rfl)
theorem PR_fact2 {K : xG} {h y : Nat} {G0 G : xHp} {hl : xHl} {r : xRw} {sc : Nat × Nat × Int32} {A0 : Nat → Nat → Int32} {F : Nat → Int32} {wa sa : Nat → Int64} {tn : Nat} {tp : Nat → Nat} {sl b : Nat} {os : List Nat} {s : xPS} {c0 : Nat} (hH : PH A0 tp tn sl) (hR : PR G0 G y hl r sc A0 F wa sa tn tp sl b (dpt os) os s) (h0 : s.1 = 0) (hb5 : b < 400) (hb : Hb tn c0 s) (hol : os.length < 402) (hdp : dpt os = 10) : xCall K mX12_fact 9 0 0 [.ref y] h G (xEx (fun G' => PR G0 G' y hl r sc A0 F wa sa tn tp sl (b + 3) (dpt (fcP tp tn os s).2.1) ((fcP tp tn os s).2.1) ((fcP tp tn os s).2.2)) (fun _ => some (.int (bI (fcP tp tn os s).1))) (fun _ => h) (fun G' => G')) := by
  refine x_entry (by decide) (ls := [(0, .ref y)]) rfl (Nat.le_of_ble_eq_true rfl) ?_
  obtain ⟨hT, hlt, htn, hs6⟩ := id hH
  obtain ⟨hf9, A9, p9, co9, en9, dd9, op9, hM9, hK9, hp9, hc9, hz9⟩ := id hR
  have hT9 : TpE (A9 27) tp := by rw [hK9.1 27 (by decide) (by decide) (by decide)]; exact hT
  refine x_aload_n dX12_fact_0 0 rfl ?_
  refine x_cVe (N := mX12_blanks) (d' := 1) (mc := 0) (ms := 0) (cb := 0) (sb := 0) (As := []) (st := []) dX12_fact_1 mX12_blanks_v lX12_210 rfl rfl (hM9.1) rfl (by decide) (Nat.le_of_ble_eq_true rfl) (PR_blanks hH hR) rfl (sf := fun G1 => []) (fun _ => rfl) (fun G1 hq1 => ?_)
  obtain ⟨hf1, A1, p1, co1, en1, dd1, op1, hM1, hK1, hp1, hc1, hz1⟩ := id hq1
  have hT1 : TpE (A1 27) tp := by rw [hK1.1 27 (by decide) (by decide) (by decide)]; exact hT
  obtain ⟨z1, z2, z3, z4, z5, z6, z7, z8, z9⟩ := hz1 h0
  have hw5 : isW tp tn s 5 = stB tp tn p1 19 := isW_at (by decide) (by decide) (by decide) wl_e5 h0 z2
  have hs91 := isS_sg (c := 91) h0 z2 hlt (by decide)
  refine x_aload_n dX12_fact_4 0 rfl ?_
  refine x_ldcwS 19 (by decide) rfl rfl dX12_fact_5 ?_
  refine x_cV (N := mX12_stood) (d' := 4) (mc := 0) (ms := 0) (cb := 0) (sb := 0) (As := [.ref (K.2.2.2.2.1 19)]) (st := []) dX12_fact_8 mX12_stood_v lX12_213 rfl rfl (hM1.1) rfl (by decide) (Nat.le_of_ble_eq_true rfl) (Md_stood (i := 19) hT1 hlt htn hM1 (by decide) (by omega)) rfl (st1 := [.int (bI (stB tp tn p1 19))]) rfl ?_
  refine x_ifB_eq (tgt := 32) dX12_fact_11 (by decide) (fun c11 => ?_) (fun c11 => ?_)
  · refine x_aload_n dX12_fact_32 0 rfl ?_
    refine x_cV (N := mX12_sign) (d' := 0) (mc := 0) (ms := 0) (cb := 0) (sb := 0) (As := []) (st := []) dX12_fact_33 mX12_sign_v lX12_193 rfl rfl (hM1.1) rfl (by decide) (Nat.le_of_ble_eq_true rfl) (Md_sign hT1 hlt htn hM1 (by omega)) rfl (st1 := [.int (sgV tp tn p1)]) rfl ?_
    refine x_bipush dX12_fact_36 kb_91 ?_
    refine x_pc (pc' := 38) rfl ?_
    refine x_icmp_ne (x := sgV tp tn p1) (y := nI 91) (tgt := 59) dX12_fact_38 (by decide) (fun c38 => ?_) (fun c38 => ?_)
    · refine x_aload_n dX12_fact_59 0 rfl ?_
      refine x_cVe (N := mX12_compared) (d' := 8) (mc := 0) (ms := 0) (cb := 0) (sb := 0) (As := []) (st := []) dX12_fact_60 mX12_compared_v lX12_272 rfl rfl (hM1.1) rfl (by decide) (Nat.le_of_ble_eq_true rfl) (PR_compared (c0 := c0) hH (PRs.to (fun q0 => (hb q0).1) hq1) hb5 hb) rfl (sf := fun G3 => []) (fun _ => rfl) (fun G3 hq3 => ?_)
      obtain ⟨hf3, A3, p3, co3, en3, dd3, op3, hM3, hK3, hp3, hc3, hz3⟩ := id hq3
      have hT3 : TpE (A3 27) tp := by rw [hK3.1 27 (by decide) (by decide) (by decide)]; exact hT
      refine x_iconst dX12_fact_63 ki_1 ?_
      have hi5 : isW tp tn s 5 = false := hw5.trans c11
      have hi6 : isS tp tn s.1 s.2.1 91 = false := by rcases hq0 : isS tp tn s.1 s.2.1 91 with _ | _; rfl; exact absurd (hs91.mp hq0) c38
      have hfc := fc_cmp (os := os) hi5 hi6
      exact x_zret dX12_fact_64 rfl (by first | rfl | decide | exact bI_nar _) (xEx_i G3 (by rw [hfc]; exact hq3) (by rw [hfc]; rfl) rfl rfl)
    · refine x_aload_n dX12_fact_41 0 rfl ?_
      refine x_bipush dX12_fact_42 kb_12 ?_
      have z60 : dd1 = 10 := z6.trans hdp
      subst z60
      refine x_cVe (N := mX12_opens) (d' := 1) (mc := 0) (ms := 0) (cb := 0) (sb := 0) (As := [.int (nI 12)]) (st := []) dX12_fact_44 mX12_opens_v lX12_269 rfl rfl (hM1.1) rfl (by decide) (Nat.le_of_ble_eq_true rfl) (Md_deep12 hM1 hf1 (by omega)) rfl (sf := fun G2 => []) (fun _ => rfl) (fun G2 hN2 => ?_)
      refine x_aload_n dX12_fact_47 0 rfl ?_
      refine x_dup dX12_fact_48 rfl ?_
      refine x_get (v := .int (nI p1)) dX12_fact_49 fX12_190 (hN2.1) rfl ?_
      refine x_iconst dX12_fact_52 ki_1 ?_
      refine x_iaddN dX12_fact_53 ?_
      refine x_put (fs' := [.int (F 0), .ref (y + 1), .ref (y + 2), .ref (y + 3), .ref (y + 4), .ref (y + 5), .ref (y + 6), .ref (y + 7), .ref (y + 8), .ref (y + 9), .ref (y + 10), .ref (y + 11), .ref (y + 12), .ref (y + 13), .ref (y + 14), .ref (y + 15), .ref (y + 16), .ref (y + 17), .ref (y + 18), .ref (y + 19), .ref (y + 20), .ref (y + 21), .ref (y + 22), .ref (y + 23), .ref (y + 24), .ref (y + 25), .ref (y + 26), .int (nI tn), .int (nI (p1 + 1)), .int (nI (flt s.1 2 p1)), .int (nI sl), .int (F 31), .int (nI en1), .int (nI (10 + 1)), .int (nI co1), .int (nI (op1 + 1)), .int (nI 12), .ref (y + 27), .ref (y + 28), .ref (y + 29), .ref (y + 30), .ref (y + 31), .ref (y + 32), .ref (y + 33), .ref (y + 34), .ref (y + 35), .ref (y + 36), .ref (y + 37), .ref (y + 38), .int (F 49), .int (F 50), .int (F 51), .int (F 52), .int (F 53), .ref (y + 39), .ref (y + 40), .ref (y + 41), .int (F 57), .int (F 58), .ref (y + 42), .ref (y + 43), .ref (y + 44), .ref (y + 45), .int (F 63), .int (F 64)]) dX12_fact_54 fX12_190 (hN2.1) (Nat.le_of_ble_eq_true rfl) rfl rfl rfl ?_
      refine x_geq (G' := xup _ y (modO y (pF (upd F 36 (nI 12)) tn (p1 + 1) (flt s.1 2 p1) sl en1 (10 + 1) co1 (op1 + 1)))) rfl ?_
      have hM101 := hN2.fld (pF (upd F 36 (nI 12)) tn (p1 + 1) (flt s.1 2 p1) sl en1 (10 + 1) co1 (op1 + 1))
      refine x_pc (pc' := 57) rfl ?_
      refine x_iconst dX12_fact_57 ki_0 ?_
      have hx := sg_at (tp := tp) (n := tn) hlt (c := 91) (by decide) c38
      have hi5 : isW tp tn s 5 = false := hw5.trans c11
      have hi6 := hs91.mpr c38
      have hfc := fc_deep (os := os) (Or.inr hi6) (by omega)
      have hdf := deep_f (tp := tp) (n := tn) (c := 2) h0 z2
      have hn : PR G0 _ y hl r sc A0 F wa sa tn tp sl (b + 3) (dpt os) os (failP tp tn s 2) := ⟨by rw [hdf]; exact flt_lt hf1 (by decide) (by omega), _, _, _, _, _, _, by rw [hdf]; exact hM101, hK1.a34, by omega, by omega, fun q0 => absurd q0 failP_ne⟩
      exact x_zret dX12_fact_58 rfl (by first | rfl | decide | exact bI_nar _) (xEx_i _ (by rw [hfc]; exact hn) (by rw [hfc]; rfl) rfl rfl)
  · refine x_aload_n dX12_fact_14 0 rfl ?_
    refine x_bipush dX12_fact_15 kb_9 ?_
    have z60 : dd1 = 10 := z6.trans hdp
    subst z60
    refine x_cVe (N := mX12_opens) (d' := 1) (mc := 0) (ms := 0) (cb := 0) (sb := 0) (As := [.int (nI 9)]) (st := []) dX12_fact_17 mX12_opens_v lX12_269 rfl rfl (hM1.1) rfl (by decide) (Nat.le_of_ble_eq_true rfl) (Md_deep9 hM1 hf1 (by omega)) rfl (sf := fun G2 => []) (fun _ => rfl) (fun G2 hN2 => ?_)
    refine x_pc (pc' := 20) rfl ?_
    refine x_aload_n dX12_fact_20 0 rfl ?_
    refine x_dup dX12_fact_21 rfl ?_
    refine x_get (v := .int (nI p1)) dX12_fact_22 fX12_190 (hN2.1) rfl ?_
    refine x_iconst dX12_fact_25 ki_3 ?_
    refine x_iaddN dX12_fact_26 ?_
    refine x_put (fs' := [.int (F 0), .ref (y + 1), .ref (y + 2), .ref (y + 3), .ref (y + 4), .ref (y + 5), .ref (y + 6), .ref (y + 7), .ref (y + 8), .ref (y + 9), .ref (y + 10), .ref (y + 11), .ref (y + 12), .ref (y + 13), .ref (y + 14), .ref (y + 15), .ref (y + 16), .ref (y + 17), .ref (y + 18), .ref (y + 19), .ref (y + 20), .ref (y + 21), .ref (y + 22), .ref (y + 23), .ref (y + 24), .ref (y + 25), .ref (y + 26), .int (nI tn), .int (nI (p1 + 3)), .int (nI (flt s.1 2 p1)), .int (nI sl), .int (F 31), .int (nI en1), .int (nI (10 + 1)), .int (nI co1), .int (nI (op1 + 1)), .int (nI 12), .ref (y + 27), .ref (y + 28), .ref (y + 29), .ref (y + 30), .ref (y + 31), .ref (y + 32), .ref (y + 33), .ref (y + 34), .ref (y + 35), .ref (y + 36), .ref (y + 37), .ref (y + 38), .int (F 49), .int (F 50), .int (F 51), .int (F 52), .int (F 53), .ref (y + 39), .ref (y + 40), .ref (y + 41), .int (F 57), .int (F 58), .ref (y + 42), .ref (y + 43), .ref (y + 44), .ref (y + 45), .int (F 63), .int (F 64)]) dX12_fact_27 fX12_190 (hN2.1) (Nat.le_of_ble_eq_true rfl) rfl rfl rfl ?_
    refine x_geq (G' := xup _ y (modO y (pF (upd F 36 (nI 12)) tn (p1 + 3) (flt s.1 2 p1) sl en1 (10 + 1) co1 (op1 + 1)))) rfl ?_
    have hM102 := hN2.fld (pF (upd F 36 (nI 12)) tn (p1 + 3) (flt s.1 2 p1) sl en1 (10 + 1) co1 (op1 + 1))
    refine x_iconst dX12_fact_30 ki_0 ?_
    have hx := st_at (tp := tp) (n := tn) (by decide) xl_19 c11
    have hi5 : isW tp tn s 5 = true := hw5.trans c11
    have hfc := fc_deep (os := os) (Or.inl hi5) (by omega)
    have hdf := deep_f (tp := tp) (n := tn) (c := 2) h0 z2
    have hn : PR G0 _ y hl r sc A0 F wa sa tn tp sl (b + 3) (dpt os) os (failP tp tn s 2) := ⟨by rw [hdf]; exact flt_lt hf1 (by decide) (by omega), _, _, _, _, _, _, by rw [hdf]; exact hM102, hK1.a34, by omega, by omega, fun q0 => absurd q0 failP_ne⟩
    exact x_zret dX12_fact_31 rfl (by first | rfl | decide | exact bI_nar _) (xEx_i _ (by rw [hfc]; exact hn) (by rw [hfc]; rfl) rfl rfl)
theorem PR_fact {K : xG} {h y : Nat} {G0 G : xHp} {hl : xHl} {r : xRw} {sc : Nat × Nat × Int32} {A0 : Nat → Nat → Int32} {F : Nat → Int32} {wa sa : Nat → Int64} {tn : Nat} {tp : Nat → Nat} {sl b : Nat} {os : List Nat} {s : xPS} {c0 : Nat} (hH : PH A0 tp tn sl) (hR : PR G0 G y hl r sc A0 F wa sa tn tp sl b (dpt os) os s) (h0 : s.1 = 0) (hb5 : b < 400) (hb : Hb tn c0 s) (hol : os.length < 402) (hdp : dpt os ≤ 10) : xCall K mX12_fact 9 0 0 [.ref y] h G (xEx (fun G' => PR G0 G' y hl r sc A0 F wa sa tn tp sl (b + 3) (dpt (fcP tp tn os s).2.1) ((fcP tp tn os s).2.1) ((fcP tp tn os s).2.2)) (fun _ => some (.int (bI (fcP tp tn os s).1))) (fun _ => h) (fun G' => G')) := by
  by_cases e : dpt os = 10
  · exact PR_fact2 hH hR h0 hb5 hb hol e
  · exact PR_fact1 hH hR h0 hb5 hb hol (by omega)
theorem PRs_top {K : xG} {h y : Nat} {G0 G : xHp} {hl : xHl} {r : xRw} {sc : Nat × Nat × Int32} {A0 : Nat → Nat → Int32} {F : Nat → Int32} {wa sa : Nat → Int64} {tn : Nat} {tp : Nat → Nat} {sl b : Nat} {os : List Nat} {s : xPS} (hR : PRs G0 G y hl r sc A0 F wa sa tn tp sl b (dpt os) os s) (h0 : s.1 = 0) (hol : os.length < 401) : xCall K mX12_top 0 0 0 [.ref y] h G (xRet (some (.int (topV os))) h G) := by
  cases os with
  | nil => exact PRs_top0 (os := []) hR h0
  | cons o os => exact PRs_top1 hR h0 (by simp only [List.length_cons] at hol; omega)
