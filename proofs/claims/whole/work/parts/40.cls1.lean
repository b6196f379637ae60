theorem Cls_put4 {K : xG} {h x tn rc : Nat} {G : xHp} {tp : Nat → Nat} {v : Int32} (m1 : G x = some (clsO x tn rc)) (m2 : G (x + 1) = some (eI 0 400 (nF tp))) (hn : tn + 4 ≤ 400) : xCall K mX11_putFour 0 0 0 [.ref x, .int v] h G (xEx (fun G' => (G' x = some (clsO x (tn + 4) rc) ∧ G' (x + 1) = some (eI 0 400 (nF (putF tp tn v)))) ∧ ∀ a, a ≠ x → a ≠ x + 1 → G' a = G a) (fun _ => none) (fun _ => h) (fun G' => G')) := by
  refine x_entry (by decide) (ls := [(0, .ref x), (1, .int v)]) rfl (Nat.le_of_ble_eq_true rfl) ?_
  refine x_bipush dX11_putFour_0 kb_24 ?_
  refine x_istore_n (ls' := [(2, .int (nI 24)), (0, .ref x), (1, .int v)]) dX11_putFour_2 (by decide) rfl ?_
  refine x_iload_n dX11_putFour_3 0 rfl ?_
  refine x_ifN_lt (tgt := 49) dX11_putFour_4 (by decide) (by omega) (fun c4 => ?_) (fun c4 => ?_)
  · exact absurd c4 (by decide)
  · refine x_aload_n dX11_putFour_7 1 rfl ?_
    refine x_get dX11_putFour_8 fX11_69 (m1) rfl ?_
    refine x_sipush dX11_putFour_11 ks_400 ?_
    refine x_icmpN_ge (tgt := 49) dX11_putFour_14 (by decide) (by omega) (by omega) (fun c14 => ?_) (fun c14 => ?_)
    · exact absurd c14 (by omega)
    · refine x_aload_n dX11_putFour_17 1 rfl ?_
      refine x_pc (pc' := 18) rfl ?_
      refine x_get dX11_putFour_18 fX11_9 (m1) rfl ?_
      refine x_aload_n dX11_putFour_21 1 rfl ?_
      refine x_get dX11_putFour_22 fX11_69 (m1) rfl ?_
      refine x_iload_n dX11_putFour_25 2 rfl ?_
      refine x_iload_n dX11_putFour_26 0 rfl ?_
      refine x_ishr dX11_putFour_27 ?_
      refine x_sipush dX11_putFour_28 ks_255 ?_
      refine x_iand dX11_putFour_31 ?_
      refine x_topi (y := nI (byB v 0)) (and255 _).1 ?_
      refine x_iastN dX11_putFour_32 (m2) (by omega) (by decide) ?_
      refine x_aload_n dX11_putFour_33 1 rfl ?_
      refine x_pc (pc' := 34) rfl ?_
      refine x_dup dX11_putFour_34 rfl ?_
      refine x_get dX11_putFour_35 fX11_69 (xup_of (by omega) (m1)) rfl ?_
      refine x_iconst dX11_putFour_38 ki_1 ?_
      refine x_iaddN dX11_putFour_39 ?_
      refine x_put (fs' := [.ref (x + 1), .int (nI (tn + 1)), .ref (x + 2), .ref (x + 12), .ref (x + 15), .int (nI rc), .ref (x + 16), .ref (x + 19), .ref (x + 26), .ref (x + 36), .ref (x + 50)]) dX11_putFour_40 fX11_69 (xup_of (by omega) (m1)) (Nat.le_of_ble_eq_true rfl) rfl rfl rfl ?_
      refine x_iinc (v := nI 16) (ls' := [(2, .int (nI 16)), (0, .ref x), (1, .int v)]) dX11_putFour_43 0 rfl (by decide) (by decide) rfl ?_
      refine x_goto (tgt := 3) dX11_putFour_46 (by decide) ?_
      refine x_iload_n dX11_putFour_3 0 rfl ?_
      refine x_ifN_lt (tgt := 49) dX11_putFour_4 (by decide) (by omega) (fun c4 => ?_) (fun c4 => ?_)
      · exact absurd c4 (by decide)
      · refine x_aload_n dX11_putFour_7 1 rfl ?_
        refine x_pc (pc' := 8) rfl ?_
        refine x_get dX11_putFour_8 fX11_69 (xup_eq) rfl ?_
        refine x_sipush dX11_putFour_11 ks_400 ?_
        refine x_icmpN_ge (tgt := 49) dX11_putFour_14 (by decide) (by omega) (by omega) (fun c14 => ?_) (fun c14 => ?_)
        · exact absurd c14 (by omega)
        · refine x_aload_n dX11_putFour_17 1 rfl ?_
          refine x_get dX11_putFour_18 fX11_9 (xup_eq) rfl ?_
          refine x_aload_n dX11_putFour_21 1 rfl ?_
          refine x_get dX11_putFour_22 fX11_69 (xup_eq) rfl ?_
          refine x_iload_n dX11_putFour_25 2 rfl ?_
          refine x_iload_n dX11_putFour_26 0 rfl ?_
          refine x_ishr dX11_putFour_27 ?_
          refine x_pc (pc' := 28) rfl ?_
          refine x_sipush dX11_putFour_28 ks_255 ?_
          refine x_iand dX11_putFour_31 ?_
          refine x_topi (y := nI (byB v 1)) (and255 _).1 ?_
          refine x_iastN dX11_putFour_32 (xup_of (by omega) (xup_eq)) (by omega) (by decide) ?_
          refine x_geq (xup_dig (by omega)) ?_
          refine x_aload_n dX11_putFour_33 1 rfl ?_
          refine x_dup dX11_putFour_34 rfl ?_
          refine x_get dX11_putFour_35 fX11_69 (xup_eq) rfl ?_
          refine x_iconst dX11_putFour_38 ki_1 ?_
          refine x_iaddN dX11_putFour_39 ?_
          refine x_put (fs' := [.ref (x + 1), .int (nI ((tn + 1) + 1)), .ref (x + 2), .ref (x + 12), .ref (x + 15), .int (nI rc), .ref (x + 16), .ref (x + 19), .ref (x + 26), .ref (x + 36), .ref (x + 50)]) dX11_putFour_40 fX11_69 (xup_eq) (Nat.le_of_ble_eq_true rfl) rfl rfl rfl ?_
          refine x_geq xup_up ?_
          refine x_iinc (v := nI 8) (ls' := [(2, .int (nI 8)), (0, .ref x), (1, .int v)]) dX11_putFour_43 0 rfl (by decide) (by decide) rfl ?_
          refine x_pc (pc' := 46) rfl ?_
          refine x_goto (tgt := 3) dX11_putFour_46 (by decide) ?_
          refine x_iload_n dX11_putFour_3 0 rfl ?_
          refine x_ifN_lt (tgt := 49) dX11_putFour_4 (by decide) (by omega) (fun c4 => ?_) (fun c4 => ?_)
          · exact absurd c4 (by decide)
          · refine x_aload_n dX11_putFour_7 1 rfl ?_
            refine x_get dX11_putFour_8 fX11_69 (xup_eq) rfl ?_
            refine x_sipush dX11_putFour_11 ks_400 ?_
            refine x_icmpN_ge (tgt := 49) dX11_putFour_14 (by decide) (by omega) (by omega) (fun c14 => ?_) (fun c14 => ?_)
            · exact absurd c14 (by omega)
            · refine x_aload_n dX11_putFour_17 1 rfl ?_
              refine x_get dX11_putFour_18 fX11_9 (xup_eq) rfl ?_
              refine x_aload_n dX11_putFour_21 1 rfl ?_
              refine x_pc (pc' := 22) rfl ?_
              refine x_get dX11_putFour_22 fX11_69 (xup_eq) rfl ?_
              refine x_iload_n dX11_putFour_25 2 rfl ?_
              refine x_iload_n dX11_putFour_26 0 rfl ?_
              refine x_ishr dX11_putFour_27 ?_
              refine x_sipush dX11_putFour_28 ks_255 ?_
              refine x_iand dX11_putFour_31 ?_
              refine x_topi (y := nI (byB v 2)) (and255 _).1 ?_
              refine x_iastN dX11_putFour_32 (xup_of (by omega) (xup_eq)) (by omega) (by decide) ?_
              refine x_geq (xup_dig (by omega)) ?_
              refine x_aload_n dX11_putFour_33 1 rfl ?_
              refine x_dup dX11_putFour_34 rfl ?_
              refine x_get dX11_putFour_35 fX11_69 (xup_eq) rfl ?_
              refine x_pc (pc' := 38) rfl ?_
              refine x_iconst dX11_putFour_38 ki_1 ?_
              refine x_iaddN dX11_putFour_39 ?_
              refine x_put (fs' := [.ref (x + 1), .int (nI (((tn + 1) + 1) + 1)), .ref (x + 2), .ref (x + 12), .ref (x + 15), .int (nI rc), .ref (x + 16), .ref (x + 19), .ref (x + 26), .ref (x + 36), .ref (x + 50)]) dX11_putFour_40 fX11_69 (xup_eq) (Nat.le_of_ble_eq_true rfl) rfl rfl rfl ?_
              refine x_geq xup_up ?_
              refine x_iinc (v := nI 0) (ls' := [(2, .int (nI 0)), (0, .ref x), (1, .int v)]) dX11_putFour_43 0 rfl (by decide) (by decide) rfl ?_
              refine x_goto (tgt := 3) dX11_putFour_46 (by decide) ?_
              refine x_iload_n dX11_putFour_3 0 rfl ?_
              refine x_ifN_lt (tgt := 49) dX11_putFour_4 (by decide) (by omega) (fun c4 => ?_) (fun c4 => ?_)
              · exact absurd c4 (by decide)
              · refine x_aload_n dX11_putFour_7 1 rfl ?_
                refine x_get dX11_putFour_8 fX11_69 (xup_eq) rfl ?_
                refine x_sipush dX11_putFour_11 ks_400 ?_
                refine x_pc (pc' := 14) rfl ?_
                refine x_icmpN_ge (tgt := 49) dX11_putFour_14 (by decide) (by omega) (by omega) (fun c14 => ?_) (fun c14 => ?_)
                · exact absurd c14 (by omega)
                · refine x_aload_n dX11_putFour_17 1 rfl ?_
                  refine x_get dX11_putFour_18 fX11_9 (xup_eq) rfl ?_
                  refine x_aload_n dX11_putFour_21 1 rfl ?_
                  refine x_get dX11_putFour_22 fX11_69 (xup_eq) rfl ?_
                  refine x_iload_n dX11_putFour_25 2 rfl ?_
                  refine x_iload_n dX11_putFour_26 0 rfl ?_
                  refine x_ishr dX11_putFour_27 ?_
                  refine x_sipush dX11_putFour_28 ks_255 ?_
                  refine x_iand dX11_putFour_31 ?_
                  refine x_topi (y := nI (byB v 3)) (and255 _).1 ?_
                  refine x_pc (pc' := 32) rfl ?_
                  refine x_iastN dX11_putFour_32 (xup_of (by omega) (xup_eq)) (by omega) (by decide) ?_
                  refine x_geq (xup_dig (by omega)) ?_
                  refine x_aload_n dX11_putFour_33 1 rfl ?_
                  refine x_dup dX11_putFour_34 rfl ?_
                  refine x_get dX11_putFour_35 fX11_69 (xup_eq) rfl ?_
                  refine x_iconst dX11_putFour_38 ki_1 ?_
                  refine x_iaddN dX11_putFour_39 ?_
                  refine x_put (fs' := [.ref (x + 1), .int (nI ((((tn + 1) + 1) + 1) + 1)), .ref (x + 2), .ref (x + 12), .ref (x + 15), .int (nI rc), .ref (x + 16), .ref (x + 19), .ref (x + 26), .ref (x + 36), .ref (x + 50)]) dX11_putFour_40 fX11_69 (xup_eq) (Nat.le_of_ble_eq_true rfl) rfl rfl rfl ?_
                  refine x_geq xup_up ?_
                  refine x_iinc (v := (-8)) (ls' := [(2, .int (-8)), (0, .ref x), (1, .int v)]) dX11_putFour_43 0 rfl (by decide) (by decide) rfl ?_
                  refine x_goto (tgt := 3) dX11_putFour_46 (by decide) ?_
                  refine x_iload_n dX11_putFour_3 0 rfl ?_
                  refine x_pc (pc' := 4) rfl ?_
                  refine x_if_lt (tgt := 49) dX11_putFour_4 (by decide) (fun c4 => ?_) (fun c4 => ?_)
                  · exact x_vret dX11_putFour_49 rfl (xEx_i _ ⟨⟨xup_eq, (xup_of (by omega) (xup_eq)).trans (by rw [putF_4])⟩, fun a h1 h2 => by rw [xup_ne (by omega), xup_ne (by omega)]⟩ rfl rfl rfl)
                  · exact absurd c4 (by decide)
theorem Cls_feed {K : xG} {h x lo : Nat} {G : xHp} {tp : Nat → Nat} {tn : Nat} {rs : List (List Nat)} {c : xCo} {im : Nat → Option xCo} {a b d e f : Int32} (hC : ClsAt G h x lo tp tn rs c im) : xCall K mX11_feed 1 0 0 [.ref x, .int a, .int b, .int d, .int e, .int f] h G (clQ G h x lo (if tn + 20 ≤ 400 then nI (tn + 20) else -1) (if tn + 20 ≤ 400 then feedT tp tn a b d e f else tp) (if tn + 20 ≤ 400 then tn + 20 else tn) rs c im) := by
  refine x_entry (by decide) (ls := [(0, .ref x), (1, .int a), (2, .int b), (3, .int d), (4, .int e), (5, .int f)]) rfl (Nat.le_of_ble_eq_true rfl) ?_
  obtain ⟨ruf, ima, ru, hM, hE⟩ := hC
  obtain ⟨m1, m2, m3, m4, m5, m6, m7, m8, m9⟩ := id hM
  obtain ⟨rows, nx, fi, fs, al, s1, s2, s3, s4, s5⟩ := id m7
  have hN : DayAt G (x + 26) c.1.1 c.1.2 (x + 16) ru := s4
  have hB := hN.2.1.2.2.2.2.2.2.2.2
  have hrc := hE.2.2.1
  have htn := m2.2.2
  refine x_aload_n dX11_feed_0 0 rfl ?_
  refine x_get dX11_feed_1 fX11_69 (m1) rfl ?_
  refine x_bipush dX11_feed_4 kb_20 ?_
  refine x_iaddN dX11_feed_6 ?_
  refine x_sipush dX11_feed_7 ks_400 ?_
  refine x_icmpN_le (tgt := 15) dX11_feed_10 (by decide) (by have := hB 0 0; have := hB 0 2; have := hB 0 3; have := hB 0 4; omega) (by have := hB 0 0; have := hB 0 2; have := hB 0 3; have := hB 0 4; omega) (fun c10 => ?_) (fun c10 => ?_)
  · refine x_aload_n dX11_feed_15 0 rfl ?_
    refine x_iload_n dX11_feed_16 1 rfl ?_
    refine x_cVe (N := mX11_putFour) (d' := 0) (mc := 0) (ms := 0) (cb := 0) (sb := 0) (As := [.int a]) (st := []) dX11_feed_17 mX11_putFour_v lX11_73 rfl rfl (m1) rfl (by decide) (Nat.le_of_ble_eq_true rfl) (Cls_put4 (m1) (m2.1) (by omega)) rfl (sf := fun G1 => []) (fun _ => rfl) (fun G1 y1 => ?_)
    refine x_pc (pc' := 20) rfl ?_
    refine x_aload_n dX11_feed_20 0 rfl ?_
    refine x_iload_n dX11_feed_21 2 rfl ?_
    refine x_cVe (N := mX11_putFour) (d' := 0) (mc := 0) (ms := 0) (cb := 0) (sb := 0) (As := [.int b]) (st := []) dX11_feed_22 mX11_putFour_v lX11_73 rfl rfl (y1.1.1) rfl (by decide) (Nat.le_of_ble_eq_true rfl) (Cls_put4 (y1.1.1) (y1.1.2) (by omega)) rfl (sf := fun G2 => []) (fun _ => rfl) (fun G2 y2 => ?_)
    refine x_aload_n dX11_feed_25 0 rfl ?_
    refine x_iload_n dX11_feed_26 3 rfl ?_
    refine x_cVe (N := mX11_putFour) (d' := 0) (mc := 0) (ms := 0) (cb := 0) (sb := 0) (As := [.int d]) (st := []) dX11_feed_27 mX11_putFour_v lX11_73 rfl rfl (y2.1.1) rfl (by decide) (Nat.le_of_ble_eq_true rfl) (Cls_put4 (y2.1.1) (y2.1.2) (by omega)) rfl (sf := fun G3 => []) (fun _ => rfl) (fun G3 y3 => ?_)
    refine x_aload_n dX11_feed_30 0 rfl ?_
    refine x_iload dX11_feed_31 4 rfl ?_
    refine x_cVe (N := mX11_putFour) (d' := 0) (mc := 0) (ms := 0) (cb := 0) (sb := 0) (As := [.int e]) (st := []) dX11_feed_33 mX11_putFour_v lX11_73 rfl rfl (y3.1.1) rfl (by decide) (Nat.le_of_ble_eq_true rfl) (Cls_put4 (y3.1.1) (y3.1.2) (by omega)) rfl (sf := fun G4 => []) (fun _ => rfl) (fun G4 y4 => ?_)
    refine x_aload_n dX11_feed_36 0 rfl ?_
    refine x_pc (pc' := 37) rfl ?_
    refine x_iload dX11_feed_37 5 rfl ?_
    refine x_cVe (N := mX11_putFour) (d' := 0) (mc := 0) (ms := 0) (cb := 0) (sb := 0) (As := [.int f]) (st := []) dX11_feed_39 mX11_putFour_v lX11_73 rfl rfl (y4.1.1) rfl (by decide) (Nat.le_of_ble_eq_true rfl) (Cls_put4 (y4.1.1) (y4.1.2) (by omega)) rfl (sf := fun G5 => []) (fun _ => rfl) (fun G5 y5 => ?_)
    refine x_aload_n dX11_feed_42 0 rfl ?_
    refine x_get dX11_feed_43 fX11_69 (y5.1.1) rfl ?_
    exact x_iret dX11_feed_46 rfl (xEx_i G5 (by rw [if_pos c10, if_pos c10]; exact Cls_tp hM hE (putF_lt (putF_lt (putF_lt (putF_lt (putF_lt m2.2.1 _ _) _ _) _ _) _ _) _ _) c10 y5.1.1 y5.1.2 (fun q h1 h2 => by rw [y5.2 q h1 h2, y4.2 q h1 h2, y3.2 q h1 h2, y2.2 q h1 h2, y1.2 q h1 h2])) (by rw [if_pos c10]) rfl rfl)
  · refine x_iconst dX11_feed_13 ki_m1 ?_
    exact x_iret dX11_feed_14 rfl (xEx_i G (by rw [if_neg (by omega), if_neg (by omega)]; exact Cls_same hM hE) (by rw [if_neg (by omega)]) rfl rfl)
theorem Cls_end {K : xG} {h x lo : Nat} {G : xHp} {tp : Nat → Nat} {tn : Nat} {rs : List (List Nat)} {c : xCo} {im : Nat → Option xCo} {v : Int32} (hC : ClsAt G h x lo tp tn rs c im) : xCall K mX11_end 0 0 0 [.ref x, .int v] h G (clQ G h x lo (if inR v (tn + 1) = true then v else -1) tp (if inR v (tn + 1) = true then thN v else tn) rs c im) := by
  refine x_entry (by decide) (ls := [(0, .ref x), (1, .int v)]) rfl (Nat.le_of_ble_eq_true rfl) ?_
  obtain ⟨ruf, ima, ru, hM, hE⟩ := hC
  obtain ⟨m1, m2, m3, m4, m5, m6, m7, m8, m9⟩ := id hM
  obtain ⟨rows, nx, fi, fs, al, s1, s2, s3, s4, s5⟩ := id m7
  have hN : DayAt G (x + 26) c.1.1 c.1.2 (x + 16) ru := s4
  have hB := hN.2.1.2.2.2.2.2.2.2.2
  have hrc := hE.2.2.1
  have htn := m2.2.2
  refine x_iload_n dX11_end_0 1 rfl ?_
  refine x_if_lt (tgt := 12) dX11_end_1 (by decide) (fun c1 => ?_) (fun c1 => ?_)
  · refine x_iconst dX11_end_12 ki_m1 ?_
    exact x_iret dX11_end_13 rfl (xEx_i G (by rw [if_neg (by rw [inR_neg c1]; decide)]; exact Cls_same hM hE) (by rw [if_neg (by rw [inR_neg c1]; decide)]) rfl rfl)
  · refine x_iload_n dX11_end_4 1 rfl ?_
    refine x_aload_n dX11_end_5 0 rfl ?_
    refine x_get dX11_end_6 fX11_69 (m1) rfl ?_
    refine x_icmp_le (x := v) (y := nI tn) (tgt := 14) dX11_end_9 (by decide) (fun c9 => ?_) (fun c9 => ?_)
    · have hin := inR_le (by omega) c1 c9
      obtain ⟨k, hk, hv⟩ := inR_of hin
      have hth := thN_nI (t := k) (by omega)
      subst hv
      refine x_aload_n dX11_end_14 0 rfl ?_
      refine x_iload_n dX11_end_15 1 rfl ?_
      refine x_put (fs' := [.ref (x + 1), .int (nI k), .ref (x + 2), .ref (x + 12), .ref (x + 15), .int (nI rs.length), .ref (x + 16), .ref (x + 19), .ref (x + 26), .ref (x + 36), .ref (x + 50)]) dX11_end_16 fX11_69 (m1) (Nat.le_of_ble_eq_true rfl) rfl rfl rfl ?_
      refine x_pc (pc' := 19) rfl ?_
      refine x_iload_n dX11_end_19 1 rfl ?_
      exact x_iret dX11_end_20 rfl (xEx_i _ (by rw [if_pos hin, hth]; exact Cls_tp hM hE m2.2.1 (by omega) xup_eq (xup_of (by omega) m2.1) (fun q h1 h2 => xup_ne h1)) (by rw [if_pos hin]) rfl rfl)
    · refine x_iconst dX11_end_12 ki_m1 ?_
      exact x_iret dX11_end_13 rfl (xEx_i G (by rw [if_neg (by rw [inR_gt (by omega) c9]; decide)]; exact Cls_same hM hE) (by rw [if_neg (by rw [inR_gt (by omega) c9]; decide)]) rfl rfl)
theorem Cls_thing {K : xG} {h x lo : Nat} {G : xHp} {tp : Nat → Nat} {tn : Nat} {rs : List (List Nat)} {c : xCo} {im : Nat → Option xCo} {v w : Int32} (hC : ClsAt G h x lo tp tn rs c im) (hK : CoreOk c) : xCall K mX11_thing 1 0 0 [.ref x, .int v, .int w] h G (clQ G h x lo (thingS c.1.1 c.1.2 v w) tp tn rs c im) := by
  refine x_entry (by decide) (ls := [(0, .ref x), (1, .int v), (2, .int w)]) rfl (Nat.le_of_ble_eq_true rfl) ?_
  obtain ⟨ruf, ima, ru, hM, hE⟩ := hC
  obtain ⟨m1, m2, m3, m4, m5, m6, m7, m8, m9⟩ := id hM
  obtain ⟨rows, nx, fi, fs, al, s1, s2, s3, s4, s5⟩ := id m7
  have hN : DayAt G (x + 26) c.1.1 c.1.2 (x + 16) ru := s4
  have hB := hN.2.1.2.2.2.2.2.2.2.2
  have hrc := hE.2.2.1
  have htn := m2.2.2
  obtain ⟨hO, hX, hK3, hK4, hK5, hK6, hK7, hK8, hK9, hK10⟩ := id hK
  obtain ⟨o2, o3, o4, o5, o6, o7, o8, o9⟩ := id hO
  refine x_aload_n dX11_thing_0 0 rfl ?_
  refine x_get dX11_thing_1 fX11_55 (m1) rfl ?_
  refine x_get dX11_thing_4 fX11_89 (hN.1) rfl ?_
  refine x_iload_n dX11_thing_7 1 rfl ?_
  refine x_cV (N := mX3_isThing) (d' := 0) (mc := 0) (ms := 0) (cb := 0) (sb := 0) (As := [.int v]) (st := []) dX11_thing_8 mX3_isThing_v lX11_116 rfl rfl (hN.2.1.1) rfl (by decide) (Nat.le_of_ble_eq_true rfl) (Hall_isThing hN.2.1) rfl (st1 := [.int (bI (inR v (c.1.1 0 4)))]) rfl ?_
  refine x_ifB_ne (tgt := 17) dX11_thing_11 (by decide) (fun c11 => ?_) (fun c11 => ?_)
  · obtain ⟨t, ht, hvt⟩ := inR_of c11
    subst hvt
    have hth := thN_nI (t := t) (by omega)
    refine x_iload_n dX11_thing_17 2 rfl ?_
    rcases xsw_0_6 w with c18 | c18 | c18 | c18 | c18 | c18 | c18
    · refine x_tableIn (tgt := 56) (off := 38) dX11_thing_18 (by rw [c18]; decide) (by rw [c18]; decide) (by rw [c18]; rfl) (by decide) ?_
      refine x_aload_n dX11_thing_56 0 rfl ?_
      refine x_pc (pc' := 57) rfl ?_
      refine x_get dX11_thing_57 fX11_55 (m1) rfl ?_
      refine x_get dX11_thing_60 fX11_89 (hN.1) rfl ?_
      refine x_get dX11_thing_63 fX11_120 (hN.2.1.1) rfl ?_
      refine x_iload_n dX11_thing_66 1 rfl ?_
      refine x_ialdN dX11_thing_67 (hN.2.1.2.2.2.2.1) (by omega) (by decide) ?_
      exact x_iret dX11_thing_68 rfl (xEx_i G (Cls_same hM hE) (by unfold thingS; rw [if_pos c11, hth, c18, if_pos rfl]) rfl rfl)
    · refine x_tableIn (tgt := 69) (off := 51) dX11_thing_18 (by rw [c18]; decide) (by rw [c18]; decide) (by rw [c18]; rfl) (by decide) ?_
      refine x_aload_n dX11_thing_69 0 rfl ?_
      refine x_pc (pc' := 70) rfl ?_
      refine x_get dX11_thing_70 fX11_55 (m1) rfl ?_
      refine x_get dX11_thing_73 fX11_89 (hN.1) rfl ?_
      refine x_get dX11_thing_76 fX11_123 (hN.2.1.1) rfl ?_
      refine x_iload_n dX11_thing_79 1 rfl ?_
      refine x_ialdN dX11_thing_80 (hN.2.1.2.2.2.2.2.1) (by omega) (by decide) ?_
      exact x_iret dX11_thing_81 rfl (xEx_i G (Cls_same hM hE) (by unfold thingS; rw [if_pos c11, hth, c18, if_neg (by decide), if_pos rfl]) rfl rfl)
    · refine x_tableIn (tgt := 82) (off := 64) dX11_thing_18 (by rw [c18]; decide) (by rw [c18]; decide) (by rw [c18]; rfl) (by decide) ?_
      refine x_aload_n dX11_thing_82 0 rfl ?_
      refine x_pc (pc' := 83) rfl ?_
      refine x_get dX11_thing_83 fX11_55 (m1) rfl ?_
      refine x_get dX11_thing_86 fX11_89 (hN.1) rfl ?_
      refine x_get dX11_thing_89 fX11_126 (hN.2.1.1) rfl ?_
      refine x_iload_n dX11_thing_92 1 rfl ?_
      refine x_ialdN dX11_thing_93 (hN.2.1.2.2.2.2.2.2.1) (by omega) (by decide) ?_
      exact x_iret dX11_thing_94 rfl (xEx_i G (Cls_same hM hE) (by unfold thingS; rw [if_pos c11, hth, c18, if_neg (by decide), if_neg (by decide), if_pos rfl]) rfl rfl)
    · refine x_tableIn (tgt := 95) (off := 77) dX11_thing_18 (by rw [c18]; decide) (by rw [c18]; decide) (by rw [c18]; rfl) (by decide) ?_
      refine x_aload_n dX11_thing_95 0 rfl ?_
      refine x_pc (pc' := 96) rfl ?_
      refine x_get dX11_thing_96 fX11_55 (m1) rfl ?_
      refine x_get dX11_thing_99 fX11_89 (hN.1) rfl ?_
      refine x_get dX11_thing_102 fX11_129 (hN.2.1.1) rfl ?_
      refine x_iload_n dX11_thing_105 1 rfl ?_
      refine x_ialdN dX11_thing_106 (hN.2.1.2.2.2.2.2.2.2.1) (by omega) (by decide) ?_
      exact x_iret dX11_thing_107 rfl (xEx_i G (Cls_same hM hE) (by unfold thingS; rw [if_pos c11, hth, c18, if_neg (by decide), if_neg (by decide), if_neg (by decide), if_pos rfl]) rfl rfl)
    · refine x_tableIn (tgt := 108) (off := 90) dX11_thing_18 (by rw [c18]; decide) (by rw [c18]; decide) (by rw [c18]; rfl) (by decide) ?_
      refine x_aload_n dX11_thing_108 0 rfl ?_
      refine x_pc (pc' := 109) rfl ?_
      refine x_get dX11_thing_109 fX11_55 (m1) rfl ?_
      refine x_iload_n dX11_thing_112 1 rfl ?_
      refine x_cV (N := mX2_howIs) (d' := 0) (mc := 0) (ms := 0) (cb := 0) (sb := 0) (As := [.int (nI t)]) (st := []) dX11_thing_113 mX2_howIs_v lX11_132 rfl rfl (hN.1) rfl (by decide) (Nat.le_of_ble_eq_true rfl) (Day_howIs hN (by omega)) rfl (st1 := [.int (c.1.2 (21 + t))]) rfl ?_
      exact x_iret dX11_thing_116 rfl (xEx_i G (Cls_same hM hE) (by unfold thingS; rw [if_pos c11, hth, c18, if_neg (by decide), if_neg (by decide), if_neg (by decide), if_neg (by decide), if_pos rfl]) rfl rfl)
    · refine x_tableIn (tgt := 117) (off := 99) dX11_thing_18 (by rw [c18]; decide) (by rw [c18]; decide) (by rw [c18]; rfl) (by decide) ?_
      refine x_aload_n dX11_thing_117 0 rfl ?_
      refine x_pc (pc' := 118) rfl ?_
      refine x_get dX11_thing_118 fX11_55 (m1) rfl ?_
      refine x_get dX11_thing_121 fX11_135 (hN.1) rfl ?_
      refine x_bipush dX11_thing_124 kb_28 ?_
      refine x_iload_n dX11_thing_126 1 rfl ?_
      refine x_iaddN dX11_thing_127 ?_
      refine x_ialdN dX11_thing_128 (hN.2.2) (by omega) (by decide) ?_
      exact x_iret dX11_thing_129 rfl (xEx_i G (Cls_same hM hE) (by unfold thingS; rw [if_pos c11, hth, c18, if_neg (by decide), if_neg (by decide), if_neg (by decide), if_neg (by decide), if_neg (by decide), if_pos rfl]) rfl rfl)
    · refine x_tableOut (tgt := 130) dX11_thing_18 (by omega) (by decide) ?_
      refine x_bipush dX11_thing_130 kb_m2 ?_
      refine x_pc (pc' := 132) rfl ?_
      exact x_iret dX11_thing_132 rfl (xEx_i G (Cls_same hM hE) (by unfold thingS; rw [if_pos c11, hth, if_neg (fun e => absurd (e ▸ c18) (by decide)), if_neg (fun e => absurd (e ▸ c18) (by decide)), if_neg (fun e => absurd (e ▸ c18) (by decide)), if_neg (fun e => absurd (e ▸ c18) (by decide)), if_neg (fun e => absurd (e ▸ c18) (by decide)), if_neg (fun e => absurd (e ▸ c18) (by decide))]) rfl rfl)
  · refine x_bipush dX11_thing_14 kb_m2 ?_
    exact x_iret dX11_thing_16 rfl (xEx_i G (Cls_same hM hE) (by unfold thingS; rw [if_neg (by rw [c11]; decide)]) rfl rfl)
theorem Cls_mender {K : xG} {h x lo : Nat} {G : xHp} {tp : Nat → Nat} {tn : Nat} {rs : List (List Nat)} {c : xCo} {im : Nat → Option xCo} {v w : Int32} (hC : ClsAt G h x lo tp tn rs c im) (hK : CoreOk c) : xCall K mX11_mender 1 0 0 [.ref x, .int v, .int w] h G (clQ G h x lo (menderS c.1.1 c.1.2 v w) tp tn rs c im) := by
  refine x_entry (by decide) (ls := [(0, .ref x), (1, .int v), (2, .int w)]) rfl (Nat.le_of_ble_eq_true rfl) ?_
  obtain ⟨ruf, ima, ru, hM, hE⟩ := hC
  obtain ⟨m1, m2, m3, m4, m5, m6, m7, m8, m9⟩ := id hM
  obtain ⟨rows, nx, fi, fs, al, s1, s2, s3, s4, s5⟩ := id m7
  have hN : DayAt G (x + 26) c.1.1 c.1.2 (x + 16) ru := s4
  have hB := hN.2.1.2.2.2.2.2.2.2.2
  have hrc := hE.2.2.1
  have htn := m2.2.2
  obtain ⟨hO, hX, hK3, hK4, hK5, hK6, hK7, hK8, hK9, hK10⟩ := id hK
  obtain ⟨o2, o3, o4, o5, o6, o7, o8, o9⟩ := id hO
  refine x_aload_n dX11_mender_0 0 rfl ?_
  refine x_get dX11_mender_1 fX11_55 (m1) rfl ?_
  refine x_get dX11_mender_4 fX11_89 (hN.1) rfl ?_
  refine x_iload_n dX11_mender_7 1 rfl ?_
  refine x_cV (N := mX3_isMender) (d' := 0) (mc := 0) (ms := 0) (cb := 0) (sb := 0) (As := [.int v]) (st := []) dX11_mender_8 mX3_isMender_v lX11_138 rfl rfl (hN.2.1.1) rfl (by decide) (Nat.le_of_ble_eq_true rfl) (Hall_isMender hN.2.1) rfl (st1 := [.int (bI (inR v (c.1.1 0 3)))]) rfl ?_
  refine x_ifB_ne (tgt := 17) dX11_mender_11 (by decide) (fun c11 => ?_) (fun c11 => ?_)
  · obtain ⟨q, hq, hvq⟩ := inR_of c11
    subst hvq
    have hth := thN_nI (t := q) (by omega)
    refine x_iload_n dX11_mender_17 2 rfl ?_
    rcases xsw_0_8 w with c18 | c18 | c18 | c18 | c18 | c18 | c18 | c18 | c18
    · refine x_tableIn (tgt := 64) (off := 46) dX11_mender_18 (by rw [c18]; decide) (by rw [c18]; decide) (by rw [c18]; rfl) (by decide) ?_
      refine x_aload_n dX11_mender_64 0 rfl ?_
      refine x_pc (pc' := 65) rfl ?_
      refine x_get dX11_mender_65 fX11_55 (m1) rfl ?_
      refine x_get dX11_mender_68 fX11_135 (hN.1) rfl ?_
      refine x_iconst dX11_mender_71 ki_5 ?_
      refine x_iload_n dX11_mender_72 1 rfl ?_
      refine x_iaddN dX11_mender_73 ?_
      refine x_ialdN dX11_mender_74 (hN.2.2) (by omega) (by decide) ?_
      exact x_iret dX11_mender_75 rfl (xEx_i G (Cls_same hM hE) (by unfold menderS; rw [if_pos c11, hth, c18, if_pos rfl]) rfl rfl)
    · refine x_tableIn (tgt := 76) (off := 58) dX11_mender_18 (by rw [c18]; decide) (by rw [c18]; decide) (by rw [c18]; rfl) (by decide) ?_
      refine x_aload_n dX11_mender_76 0 rfl ?_
      refine x_pc (pc' := 77) rfl ?_
      refine x_get dX11_mender_77 fX11_55 (m1) rfl ?_
      refine x_get dX11_mender_80 fX11_135 (hN.1) rfl ?_
      refine x_bipush dX11_mender_83 kb_9 ?_
      refine x_iload_n dX11_mender_85 1 rfl ?_
      refine x_iaddN dX11_mender_86 ?_
      refine x_ialdN dX11_mender_87 (hN.2.2) (by omega) (by decide) ?_
      exact x_iret dX11_mender_88 rfl (xEx_i G (Cls_same hM hE) (by unfold menderS; rw [if_pos c11, hth, c18, if_neg (by decide), if_pos rfl]) rfl rfl)
    · refine x_tableIn (tgt := 89) (off := 71) dX11_mender_18 (by rw [c18]; decide) (by rw [c18]; decide) (by rw [c18]; rfl) (by decide) ?_
      refine x_aload_n dX11_mender_89 0 rfl ?_
      refine x_pc (pc' := 90) rfl ?_
      refine x_get dX11_mender_90 fX11_55 (m1) rfl ?_
      refine x_get dX11_mender_93 fX11_135 (hN.1) rfl ?_
      refine x_bipush dX11_mender_96 kb_13 ?_
      refine x_iload_n dX11_mender_98 1 rfl ?_
      refine x_iaddN dX11_mender_99 ?_
      refine x_ialdN dX11_mender_100 (hN.2.2) (by omega) (by decide) ?_
      exact x_iret dX11_mender_101 rfl (xEx_i G (Cls_same hM hE) (by unfold menderS; rw [if_pos c11, hth, c18, if_neg (by decide), if_neg (by decide), if_pos rfl]) rfl rfl)
    · refine x_tableIn (tgt := 102) (off := 84) dX11_mender_18 (by rw [c18]; decide) (by rw [c18]; decide) (by rw [c18]; rfl) (by decide) ?_
      refine x_aload_n dX11_mender_102 0 rfl ?_
      refine x_pc (pc' := 103) rfl ?_
      refine x_get dX11_mender_103 fX11_55 (m1) rfl ?_
      refine x_get dX11_mender_106 fX11_135 (hN.1) rfl ?_
      refine x_bipush dX11_mender_109 kb_17 ?_
      refine x_iload_n dX11_mender_111 1 rfl ?_
      refine x_iaddN dX11_mender_112 ?_
      refine x_ialdN dX11_mender_113 (hN.2.2) (by omega) (by decide) ?_
      exact x_iret dX11_mender_114 rfl (xEx_i G (Cls_same hM hE) (by unfold menderS; rw [if_pos c11, hth, c18, if_neg (by decide), if_neg (by decide), if_neg (by decide), if_pos rfl]) rfl rfl)
    · refine x_tableIn (tgt := 115) (off := 97) dX11_mender_18 (by rw [c18]; decide) (by rw [c18]; decide) (by rw [c18]; rfl) (by decide) ?_
      refine x_aload_n dX11_mender_115 0 rfl ?_
      refine x_pc (pc' := 116) rfl ?_
      refine x_get dX11_mender_116 fX11_55 (m1) rfl ?_
      refine x_get dX11_mender_119 fX11_89 (hN.1) rfl ?_
      refine x_iload_n dX11_mender_122 1 rfl ?_
      refine x_iload_n dX11_mender_123 2 rfl ?_
      refine x_iconst dX11_mender_124 ki_4 ?_
      refine x_isub dX11_mender_125 ?_
      refine x_topi (y := nI 0) (by rw [c18]; decide) ?_
      refine x_cV (N := mX3_skillOf) (d' := 0) (mc := 0) (ms := 0) (cb := 0) (sb := 0) (As := [.int (nI q), .int (nI 0)]) (st := []) dX11_mender_126 mX3_skillOf_v lX11_141 rfl rfl (hN.2.1.1) rfl (by decide) (Nat.le_of_ble_eq_true rfl) (Hall_skillOf hN.2.1 (by omega) (by decide)) rfl (st1 := [.int (nI (c.1.1 3 (q * 4 + 0)))]) rfl ?_
      refine x_istore_n (ls' := [(3, .int (nI (c.1.1 3 (q * 4 + 0)))), (0, .ref x), (1, .int (nI q)), (2, .int w)]) dX11_mender_129 (by decide) rfl ?_
      refine x_iload_n dX11_mender_130 0 rfl ?_
      refine x_ifN_le (tgt := 138) dX11_mender_131 (by decide) (by have := hB 3 (q * 4 + 0); omega) (fun c131 => ?_) (fun c131 => ?_)
      · refine x_pc (pc' := 138) rfl ?_
        refine x_iconst dX11_mender_138 ki_m1 ?_
        exact x_iret dX11_mender_139 rfl (xEx_i G (Cls_same hM hE) (by unfold menderS; rw [if_pos c11, hth, c18, if_neg (by decide), if_neg (by decide), if_neg (by decide), if_neg (by decide), if_pos rfl]; unfold skI; rw [if_pos c131]) rfl rfl)
      · refine x_pc (pc' := 134) rfl ?_
        refine x_iload_n dX11_mender_134 0 rfl ?_
        refine x_goto (tgt := 139) dX11_mender_135 (by decide) ?_
        exact x_iret dX11_mender_139 rfl (xEx_i G (Cls_same hM hE) (by unfold menderS; rw [if_pos c11, hth, c18, if_neg (by decide), if_neg (by decide), if_neg (by decide), if_neg (by decide), if_pos rfl]; unfold skI; rw [if_neg (by omega)]) rfl rfl)
    · refine x_tableIn (tgt := 115) (off := 97) dX11_mender_18 (by rw [c18]; decide) (by rw [c18]; decide) (by rw [c18]; rfl) (by decide) ?_
      refine x_aload_n dX11_mender_115 0 rfl ?_
      refine x_pc (pc' := 116) rfl ?_
      refine x_get dX11_mender_116 fX11_55 (m1) rfl ?_
      refine x_get dX11_mender_119 fX11_89 (hN.1) rfl ?_
      refine x_iload_n dX11_mender_122 1 rfl ?_
      refine x_iload_n dX11_mender_123 2 rfl ?_
      refine x_iconst dX11_mender_124 ki_4 ?_
      refine x_isub dX11_mender_125 ?_
      refine x_topi (y := nI 1) (by rw [c18]; decide) ?_
      refine x_cV (N := mX3_skillOf) (d' := 0) (mc := 0) (ms := 0) (cb := 0) (sb := 0) (As := [.int (nI q), .int (nI 1)]) (st := []) dX11_mender_126 mX3_skillOf_v lX11_141 rfl rfl (hN.2.1.1) rfl (by decide) (Nat.le_of_ble_eq_true rfl) (Hall_skillOf hN.2.1 (by omega) (by decide)) rfl (st1 := [.int (nI (c.1.1 3 (q * 4 + 1)))]) rfl ?_
      refine x_istore_n (ls' := [(3, .int (nI (c.1.1 3 (q * 4 + 1)))), (0, .ref x), (1, .int (nI q)), (2, .int w)]) dX11_mender_129 (by decide) rfl ?_
      refine x_iload_n dX11_mender_130 0 rfl ?_
      refine x_ifN_le (tgt := 138) dX11_mender_131 (by decide) (by have := hB 3 (q * 4 + 1); omega) (fun c131 => ?_) (fun c131 => ?_)
      · refine x_pc (pc' := 138) rfl ?_
        refine x_iconst dX11_mender_138 ki_m1 ?_
        exact x_iret dX11_mender_139 rfl (xEx_i G (Cls_same hM hE) (by unfold menderS; rw [if_pos c11, hth, c18, if_neg (by decide), if_neg (by decide), if_neg (by decide), if_neg (by decide), if_neg (by decide), if_pos rfl]; unfold skI; rw [if_pos c131]) rfl rfl)
      · refine x_pc (pc' := 134) rfl ?_
        refine x_iload_n dX11_mender_134 0 rfl ?_
        refine x_goto (tgt := 139) dX11_mender_135 (by decide) ?_
        exact x_iret dX11_mender_139 rfl (xEx_i G (Cls_same hM hE) (by unfold menderS; rw [if_pos c11, hth, c18, if_neg (by decide), if_neg (by decide), if_neg (by decide), if_neg (by decide), if_neg (by decide), if_pos rfl]; unfold skI; rw [if_neg (by omega)]) rfl rfl)
    · refine x_tableIn (tgt := 115) (off := 97) dX11_mender_18 (by rw [c18]; decide) (by rw [c18]; decide) (by rw [c18]; rfl) (by decide) ?_
      refine x_aload_n dX11_mender_115 0 rfl ?_
      refine x_pc (pc' := 116) rfl ?_
      refine x_get dX11_mender_116 fX11_55 (m1) rfl ?_
      refine x_get dX11_mender_119 fX11_89 (hN.1) rfl ?_
      refine x_iload_n dX11_mender_122 1 rfl ?_
      refine x_iload_n dX11_mender_123 2 rfl ?_
      refine x_iconst dX11_mender_124 ki_4 ?_
      refine x_isub dX11_mender_125 ?_
      refine x_topi (y := nI 2) (by rw [c18]; decide) ?_
      refine x_cV (N := mX3_skillOf) (d' := 0) (mc := 0) (ms := 0) (cb := 0) (sb := 0) (As := [.int (nI q), .int (nI 2)]) (st := []) dX11_mender_126 mX3_skillOf_v lX11_141 rfl rfl (hN.2.1.1) rfl (by decide) (Nat.le_of_ble_eq_true rfl) (Hall_skillOf hN.2.1 (by omega) (by decide)) rfl (st1 := [.int (nI (c.1.1 3 (q * 4 + 2)))]) rfl ?_
      refine x_istore_n (ls' := [(3, .int (nI (c.1.1 3 (q * 4 + 2)))), (0, .ref x), (1, .int (nI q)), (2, .int w)]) dX11_mender_129 (by decide) rfl ?_
      refine x_iload_n dX11_mender_130 0 rfl ?_
      refine x_ifN_le (tgt := 138) dX11_mender_131 (by decide) (by have := hB 3 (q * 4 + 2); omega) (fun c131 => ?_) (fun c131 => ?_)
      · refine x_pc (pc' := 138) rfl ?_
        refine x_iconst dX11_mender_138 ki_m1 ?_
        exact x_iret dX11_mender_139 rfl (xEx_i G (Cls_same hM hE) (by unfold menderS; rw [if_pos c11, hth, c18, if_neg (by decide), if_neg (by decide), if_neg (by decide), if_neg (by decide), if_neg (by decide), if_neg (by decide), if_pos rfl]; unfold skI; rw [if_pos c131]) rfl rfl)
      · refine x_pc (pc' := 134) rfl ?_
        refine x_iload_n dX11_mender_134 0 rfl ?_
        refine x_goto (tgt := 139) dX11_mender_135 (by decide) ?_
        exact x_iret dX11_mender_139 rfl (xEx_i G (Cls_same hM hE) (by unfold menderS; rw [if_pos c11, hth, c18, if_neg (by decide), if_neg (by decide), if_neg (by decide), if_neg (by decide), if_neg (by decide), if_neg (by decide), if_pos rfl]; unfold skI; rw [if_neg (by omega)]) rfl rfl)
    · refine x_tableIn (tgt := 115) (off := 97) dX11_mender_18 (by rw [c18]; decide) (by rw [c18]; decide) (by rw [c18]; rfl) (by decide) ?_
      refine x_aload_n dX11_mender_115 0 rfl ?_
      refine x_pc (pc' := 116) rfl ?_
      refine x_get dX11_mender_116 fX11_55 (m1) rfl ?_
      refine x_get dX11_mender_119 fX11_89 (hN.1) rfl ?_
      refine x_iload_n dX11_mender_122 1 rfl ?_
      refine x_iload_n dX11_mender_123 2 rfl ?_
      refine x_iconst dX11_mender_124 ki_4 ?_
      refine x_isub dX11_mender_125 ?_
      refine x_topi (y := nI 3) (by rw [c18]; decide) ?_
      refine x_cV (N := mX3_skillOf) (d' := 0) (mc := 0) (ms := 0) (cb := 0) (sb := 0) (As := [.int (nI q), .int (nI 3)]) (st := []) dX11_mender_126 mX3_skillOf_v lX11_141 rfl rfl (hN.2.1.1) rfl (by decide) (Nat.le_of_ble_eq_true rfl) (Hall_skillOf hN.2.1 (by omega) (by decide)) rfl (st1 := [.int (nI (c.1.1 3 (q * 4 + 3)))]) rfl ?_
      refine x_istore_n (ls' := [(3, .int (nI (c.1.1 3 (q * 4 + 3)))), (0, .ref x), (1, .int (nI q)), (2, .int w)]) dX11_mender_129 (by decide) rfl ?_
      refine x_iload_n dX11_mender_130 0 rfl ?_
      refine x_ifN_le (tgt := 138) dX11_mender_131 (by decide) (by have := hB 3 (q * 4 + 3); omega) (fun c131 => ?_) (fun c131 => ?_)
      · refine x_pc (pc' := 138) rfl ?_
        refine x_iconst dX11_mender_138 ki_m1 ?_
        exact x_iret dX11_mender_139 rfl (xEx_i G (Cls_same hM hE) (by unfold menderS; rw [if_pos c11, hth, c18, if_neg (by decide), if_neg (by decide), if_neg (by decide), if_neg (by decide), if_neg (by decide), if_neg (by decide), if_neg (by decide), if_pos rfl]; unfold skI; rw [if_pos c131]) rfl rfl)
      · refine x_pc (pc' := 134) rfl ?_
        refine x_iload_n dX11_mender_134 0 rfl ?_
        refine x_goto (tgt := 139) dX11_mender_135 (by decide) ?_
        exact x_iret dX11_mender_139 rfl (xEx_i G (Cls_same hM hE) (by unfold menderS; rw [if_pos c11, hth, c18, if_neg (by decide), if_neg (by decide), if_neg (by decide), if_neg (by decide), if_neg (by decide), if_neg (by decide), if_neg (by decide), if_pos rfl]; unfold skI; rw [if_neg (by omega)]) rfl rfl)
    · refine x_tableOut (tgt := 140) dX11_mender_18 (by omega) (by decide) ?_
      refine x_bipush dX11_mender_140 kb_m2 ?_
      refine x_pc (pc' := 142) rfl ?_
      exact x_iret dX11_mender_142 rfl (xEx_i G (Cls_same hM hE) (by unfold menderS; rw [if_pos c11, hth, if_neg (fun e => absurd (e ▸ c18) (by decide)), if_neg (fun e => absurd (e ▸ c18) (by decide)), if_neg (fun e => absurd (e ▸ c18) (by decide)), if_neg (fun e => absurd (e ▸ c18) (by decide)), if_neg (fun e => absurd (e ▸ c18) (by decide)), if_neg (fun e => absurd (e ▸ c18) (by decide)), if_neg (fun e => absurd (e ▸ c18) (by decide)), if_neg (fun e => absurd (e ▸ c18) (by decide))]) rfl rfl)
  · refine x_bipush dX11_mender_14 kb_m2 ?_
    exact x_iret dX11_mender_16 rfl (xEx_i G (Cls_same hM hE) (by unfold menderS; rw [if_neg (by rw [c11]; decide)]) rfl rfl)
theorem Cls_sort {K : xG} {h x lo : Nat} {G : xHp} {tp : Nat → Nat} {tn : Nat} {rs : List (List Nat)} {c : xCo} {im : Nat → Option xCo} {v w : Int32} (hC : ClsAt G h x lo tp tn rs c im) (hK : CoreOk c) : xCall K mX11_sort 1 0 0 [.ref x, .int v, .int w] h G (clQ G h x lo (sortS c.1.1 c.1.2 v w) tp tn rs c im) := by
  refine x_entry (by decide) (ls := [(0, .ref x), (1, .int v), (2, .int w)]) rfl (Nat.le_of_ble_eq_true rfl) ?_
  obtain ⟨ruf, ima, ru, hM, hE⟩ := hC
  obtain ⟨m1, m2, m3, m4, m5, m6, m7, m8, m9⟩ := id hM
  obtain ⟨rows, nx, fi, fs, al, s1, s2, s3, s4, s5⟩ := id m7
  have hN : DayAt G (x + 26) c.1.1 c.1.2 (x + 16) ru := s4
  have hB := hN.2.1.2.2.2.2.2.2.2.2
  have hrc := hE.2.2.1
  have htn := m2.2.2
  obtain ⟨hO, hX, hK3, hK4, hK5, hK6, hK7, hK8, hK9, hK10⟩ := id hK
  obtain ⟨o2, o3, o4, o5, o6, o7, o8, o9⟩ := id hO
  refine x_aload_n dX11_sort_0 0 rfl ?_
  refine x_get dX11_sort_1 fX11_55 (m1) rfl ?_
  refine x_get dX11_sort_4 fX11_89 (hN.1) rfl ?_
  refine x_iload_n dX11_sort_7 1 rfl ?_
  refine x_cV (N := mX3_isSort) (d' := 0) (mc := 0) (ms := 0) (cb := 0) (sb := 0) (As := [.int v]) (st := []) dX11_sort_8 mX3_isSort_v lX11_145 rfl rfl (hN.2.1.1) rfl (by decide) (Nat.le_of_ble_eq_true rfl) (Hall_isSort hN.2.1) rfl (st1 := [.int (bI (inR v (c.1.1 0 2)))]) rfl ?_
  refine x_ifB_eq (tgt := 23) dX11_sort_11 (by decide) (fun c11 => ?_) (fun c11 => ?_)
  · refine x_iconst dX11_sort_23 ki_m1 ?_
    exact x_iret dX11_sort_24 rfl (xEx_i G (Cls_same hM hE) (by unfold sortS; rw [if_neg (fun e => absurd (c11.symm.trans e.1) (by decide))]) rfl rfl)
  · have hc11 := c11
    obtain ⟨q, hq, hvq⟩ := inR_of c11
    subst hvq
    have hth := thN_nI (t := q) (by omega)
    refine x_iload_n dX11_sort_14 2 rfl ?_
    refine x_if_lt (tgt := 23) dX11_sort_15 (by decide) (fun c15 => ?_) (fun c15 => ?_)
    · refine x_iconst dX11_sort_23 ki_m1 ?_
      refine x_pc (pc' := 24) rfl ?_
      exact x_iret dX11_sort_24 rfl (xEx_i G (Cls_same hM hE) (by unfold sortS; rw [if_neg (fun e => absurd ((inR_neg c15).symm.trans e.2) (by decide))]) rfl rfl)
    · refine x_iload_n dX11_sort_18 2 rfl ?_
      refine x_pc (pc' := 19) rfl ?_
      refine x_iconst dX11_sort_19 ki_1 ?_
      refine x_icmp_le (x := w) (y := nI 1) (tgt := 25) dX11_sort_20 (by decide) (fun c20 => ?_) (fun c20 => ?_)
      · refine x_iload_n dX11_sort_25 2 rfl ?_
        refine x_if_ne (tgt := 44) dX11_sort_26 (by decide) (fun c26 => ?_) (fun c26 => ?_)
        · refine x_aload_n dX11_sort_44 0 rfl ?_
          refine x_get dX11_sort_45 fX11_55 (m1) rfl ?_
          refine x_get dX11_sort_48 fX11_135 (hN.1) rfl ?_
          refine x_iconst dX11_sort_51 ki_1 ?_
          refine x_iload_n dX11_sort_52 1 rfl ?_
          refine x_iaddN dX11_sort_53 ?_
          refine x_pc (pc' := 54) rfl ?_
          refine x_ialdN dX11_sort_54 (hN.2.2) (by omega) (by decide) ?_
          exact x_iret dX11_sort_55 rfl (xEx_i G (Cls_same hM hE) (by unfold sortS; rw [if_pos ⟨hc11, inR_le (m := 1) (by decide) c15 c20⟩, if_neg c26, hth]) rfl rfl)
        · refine x_aload_n dX11_sort_29 0 rfl ?_
          refine x_get dX11_sort_30 fX11_55 (m1) rfl ?_
          refine x_get dX11_sort_33 fX11_89 (hN.1) rfl ?_
          refine x_get dX11_sort_36 fX11_148 (hN.2.1.1) rfl ?_
          refine x_iload_n dX11_sort_39 1 rfl ?_
          refine x_ialdN dX11_sort_40 (hN.2.1.2.1) (by omega) (by decide) ?_
          refine x_pc (pc' := 41) rfl ?_
          refine x_goto (tgt := 55) dX11_sort_41 (by decide) ?_
          exact x_iret dX11_sort_55 rfl (xEx_i G (Cls_same hM hE) (by unfold sortS; rw [if_pos ⟨hc11, inR_le (m := 1) (by decide) c15 c20⟩, if_pos c26, hth]) rfl rfl)
      · refine x_iconst dX11_sort_23 ki_m1 ?_
        exact x_iret dX11_sort_24 rfl (xEx_i G (Cls_same hM hE) (by unfold sortS; rw [if_neg (fun e => absurd ((inR_gt (m := 1) (by decide) c20).symm.trans e.2) (by decide))]) rfl rfl)
theorem Cls_count {K : xG} {h x lo : Nat} {G : xHp} {tp : Nat → Nat} {tn : Nat} {rs : List (List Nat)} {c : xCo} {im : Nat → Option xCo} {w : Int32} (hC : ClsAt G h x lo tp tn rs c im) (hK : CoreOk c) : xCall K mX11_count 1 0 0 [.ref x, .int w] h G (clQ G h x lo (countS c.1.1 c.1.2 rs.length c.2.2.1.2.1 c.2.1.2 c.2.2.2.2 c.2.2.1.2.2 tn w) tp tn rs c im) := by
  refine x_entry (by decide) (ls := [(0, .ref x), (1, .int w)]) rfl (Nat.le_of_ble_eq_true rfl) ?_
  obtain ⟨ruf, ima, ru, hM, hE⟩ := hC
  obtain ⟨m1, m2, m3, m4, m5, m6, m7, m8, m9⟩ := id hM
  obtain ⟨rows, nx, fi, fs, al, s1, s2, s3, s4, s5⟩ := id m7
  have hN : DayAt G (x + 26) c.1.1 c.1.2 (x + 16) ru := s4
  have hB := hN.2.1.2.2.2.2.2.2.2.2
  have hrc := hE.2.2.1
  have htn := m2.2.2
  obtain ⟨hO, hX, hK3, hK4, hK5, hK6, hK7, hK8, hK9, hK10⟩ := id hK
  obtain ⟨o2, o3, o4, o5, o6, o7, o8, o9⟩ := id hO
  refine x_iload_n dX11_count_0 1 rfl ?_
  rcases xsw_0_17 w with c1 | c1 | c1 | c1 | c1 | c1 | c1 | c1 | c1 | c1 | c1 | c1 | c1 | c1 | c1 | c1 | c1 | c1
  · refine x_tableIn (tgt := 84) (off := 83) dX11_count_1 (by rw [c1]; decide) (by rw [c1]; decide) (by rw [c1]; rfl) (by decide) ?_
    refine x_aload_n dX11_count_84 0 rfl ?_
    refine x_get dX11_count_85 fX11_55 (m1) rfl ?_
    refine x_get dX11_count_88 fX11_89 (hN.1) rfl ?_
    refine x_get dX11_count_91 fX11_289 (hN.2.1.1) rfl ?_
    exact x_iret dX11_count_94 rfl (xEx_i G (Cls_same hM hE) (by unfold countS; rw [c1, if_pos rfl]) rfl rfl)
  · refine x_tableIn (tgt := 95) (off := 94) dX11_count_1 (by rw [c1]; decide) (by rw [c1]; decide) (by rw [c1]; rfl) (by decide) ?_
    refine x_aload_n dX11_count_95 0 rfl ?_
    refine x_get dX11_count_96 fX11_55 (m1) rfl ?_
    refine x_get dX11_count_99 fX11_89 (hN.1) rfl ?_
    refine x_get dX11_count_102 fX11_292 (hN.2.1.1) rfl ?_
    exact x_iret dX11_count_105 rfl (xEx_i G (Cls_same hM hE) (by unfold countS; rw [c1, if_neg (by decide), if_pos rfl]) rfl rfl)
  · refine x_tableIn (tgt := 106) (off := 105) dX11_count_1 (by rw [c1]; decide) (by rw [c1]; decide) (by rw [c1]; rfl) (by decide) ?_
    refine x_aload_n dX11_count_106 0 rfl ?_
    refine x_get dX11_count_107 fX11_55 (m1) rfl ?_
    refine x_get dX11_count_110 fX11_89 (hN.1) rfl ?_
    refine x_get dX11_count_113 fX11_295 (hN.2.1.1) rfl ?_
    exact x_iret dX11_count_116 rfl (xEx_i G (Cls_same hM hE) (by unfold countS; rw [c1, if_neg (by decide), if_neg (by decide), if_pos rfl]) rfl rfl)
  · refine x_tableIn (tgt := 117) (off := 116) dX11_count_1 (by rw [c1]; decide) (by rw [c1]; decide) (by rw [c1]; rfl) (by decide) ?_
    refine x_aload_n dX11_count_117 0 rfl ?_
    refine x_get dX11_count_118 fX11_55 (m1) rfl ?_
    refine x_get dX11_count_121 fX11_89 (hN.1) rfl ?_
    refine x_get dX11_count_124 fX11_225 (hN.2.1.1) rfl ?_
    exact x_iret dX11_count_127 rfl (xEx_i G (Cls_same hM hE) (by unfold countS; rw [c1, if_neg (by decide), if_neg (by decide), if_neg (by decide), if_pos rfl]) rfl rfl)
  · refine x_tableIn (tgt := 128) (off := 127) dX11_count_1 (by rw [c1]; decide) (by rw [c1]; decide) (by rw [c1]; rfl) (by decide) ?_
    refine x_aload_n dX11_count_128 0 rfl ?_
    refine x_get dX11_count_129 fX11_55 (m1) rfl ?_
    refine x_get dX11_count_132 fX11_89 (hN.1) rfl ?_
    refine x_get dX11_count_135 fX11_92 (hN.2.1.1) rfl ?_
    exact x_iret dX11_count_138 rfl (xEx_i G (Cls_same hM hE) (by unfold countS; rw [c1, if_neg (by decide), if_neg (by decide), if_neg (by decide), if_neg (by decide), if_pos rfl]) rfl rfl)
  · refine x_tableIn (tgt := 139) (off := 138) dX11_count_1 (by rw [c1]; decide) (by rw [c1]; decide) (by rw [c1]; rfl) (by decide) ?_
    refine x_aload_n dX11_count_139 0 rfl ?_
    refine x_get dX11_count_140 fX11_97 (m1) rfl ?_
    exact x_iret dX11_count_143 rfl (xEx_i G (Cls_same hM hE) (by unfold countS; rw [c1, if_neg (by decide), if_neg (by decide), if_neg (by decide), if_neg (by decide), if_neg (by decide), if_pos rfl]) rfl rfl)
  · refine x_tableIn (tgt := 144) (off := 143) dX11_count_1 (by rw [c1]; decide) (by rw [c1]; decide) (by rw [c1]; rfl) (by decide) ?_
    refine x_aload_n dX11_count_144 0 rfl ?_
    refine x_get dX11_count_145 fX11_47 (m1) rfl ?_
    refine x_get dX11_count_148 fX11_105 (s1) rfl ?_
    exact x_iret dX11_count_151 rfl (xEx_i G (Cls_same hM hE) (by unfold countS; rw [c1, if_neg (by decide), if_neg (by decide), if_neg (by decide), if_neg (by decide), if_neg (by decide), if_neg (by decide), if_pos rfl]) rfl rfl)
  · refine x_tableIn (tgt := 152) (off := 151) dX11_count_1 (by rw [c1]; decide) (by rw [c1]; decide) (by rw [c1]; rfl) (by decide) ?_
    refine x_aload_n dX11_count_152 0 rfl ?_
    refine x_get dX11_count_153 fX11_55 (m1) rfl ?_
    refine x_cV (N := mX2_minuteNow) (d' := 0) (mc := 0) (ms := 0) (cb := 0) (sb := 0) (As := []) (st := []) dX11_count_156 mX2_minuteNow_v lX11_155 rfl rfl (hN.1) rfl (by decide) (Nat.le_of_ble_eq_true rfl) (Day_minuteNow hN) rfl (st1 := [.int (c.1.2 0)]) rfl ?_
    exact x_iret dX11_count_159 rfl (xEx_i G (Cls_same hM hE) (by unfold countS; rw [c1, if_neg (by decide), if_neg (by decide), if_neg (by decide), if_neg (by decide), if_neg (by decide), if_neg (by decide), if_neg (by decide), if_pos rfl]) rfl rfl)
  · refine x_tableIn (tgt := 160) (off := 159) dX11_count_1 (by rw [c1]; decide) (by rw [c1]; decide) (by rw [c1]; rfl) (by decide) ?_
    refine x_aload_n dX11_count_160 0 rfl ?_
    refine x_get dX11_count_161 fX11_55 (m1) rfl ?_
    refine x_iconst dX11_count_164 ki_1 ?_
    refine x_iload_n dX11_count_165 1 rfl ?_
    refine x_iadd dX11_count_166 ?_
    refine x_bipush dX11_count_167 kb_8 ?_
    refine x_isub dX11_count_169 ?_
    refine x_topi (y := nI 1) (by rw [c1]; decide) ?_
    refine x_pc (pc' := 170) rfl ?_
    refine x_cV (N := mX2_bitsOf) (d' := 0) (mc := 0) (ms := 0) (cb := 0) (sb := 0) (As := [.int (nI 1)]) (st := []) dX11_count_170 mX2_bitsOf_v lX11_281 rfl rfl (hN.1) rfl (by decide) (Nat.le_of_ble_eq_true rfl) (Day_bitsOf hN hO) rfl (st1 := [.int (bitsOf c.1.1 c.1.2 (nI 1))]) rfl ?_
    exact x_iret dX11_count_173 rfl (xEx_i G (Cls_same hM hE) (by unfold countS; rw [c1, if_neg (by decide), if_neg (by decide), if_neg (by decide), if_neg (by decide), if_neg (by decide), if_neg (by decide), if_neg (by decide), if_neg (by decide), if_pos rfl]) rfl rfl)
  · refine x_tableIn (tgt := 160) (off := 159) dX11_count_1 (by rw [c1]; decide) (by rw [c1]; decide) (by rw [c1]; rfl) (by decide) ?_
    refine x_aload_n dX11_count_160 0 rfl ?_
    refine x_get dX11_count_161 fX11_55 (m1) rfl ?_
    refine x_iconst dX11_count_164 ki_1 ?_
    refine x_iload_n dX11_count_165 1 rfl ?_
    refine x_iadd dX11_count_166 ?_
    refine x_bipush dX11_count_167 kb_8 ?_
    refine x_isub dX11_count_169 ?_
    refine x_topi (y := nI 2) (by rw [c1]; decide) ?_
    refine x_pc (pc' := 170) rfl ?_
    refine x_cV (N := mX2_bitsOf) (d' := 0) (mc := 0) (ms := 0) (cb := 0) (sb := 0) (As := [.int (nI 2)]) (st := []) dX11_count_170 mX2_bitsOf_v lX11_281 rfl rfl (hN.1) rfl (by decide) (Nat.le_of_ble_eq_true rfl) (Day_bitsOf hN hO) rfl (st1 := [.int (bitsOf c.1.1 c.1.2 (nI 2))]) rfl ?_
    exact x_iret dX11_count_173 rfl (xEx_i G (Cls_same hM hE) (by unfold countS; rw [c1, if_neg (by decide), if_neg (by decide), if_neg (by decide), if_neg (by decide), if_neg (by decide), if_neg (by decide), if_neg (by decide), if_neg (by decide), if_neg (by decide), if_pos rfl]) rfl rfl)
  · refine x_tableIn (tgt := 160) (off := 159) dX11_count_1 (by rw [c1]; decide) (by rw [c1]; decide) (by rw [c1]; rfl) (by decide) ?_
    refine x_aload_n dX11_count_160 0 rfl ?_
    refine x_get dX11_count_161 fX11_55 (m1) rfl ?_
    refine x_iconst dX11_count_164 ki_1 ?_
    refine x_iload_n dX11_count_165 1 rfl ?_
    refine x_iadd dX11_count_166 ?_
    refine x_bipush dX11_count_167 kb_8 ?_
    refine x_isub dX11_count_169 ?_
    refine x_topi (y := nI 3) (by rw [c1]; decide) ?_
    refine x_pc (pc' := 170) rfl ?_
    refine x_cV (N := mX2_bitsOf) (d' := 0) (mc := 0) (ms := 0) (cb := 0) (sb := 0) (As := [.int (nI 3)]) (st := []) dX11_count_170 mX2_bitsOf_v lX11_281 rfl rfl (hN.1) rfl (by decide) (Nat.le_of_ble_eq_true rfl) (Day_bitsOf hN hO) rfl (st1 := [.int (bitsOf c.1.1 c.1.2 (nI 3))]) rfl ?_
    exact x_iret dX11_count_173 rfl (xEx_i G (Cls_same hM hE) (by unfold countS; rw [c1, if_neg (by decide), if_neg (by decide), if_neg (by decide), if_neg (by decide), if_neg (by decide), if_neg (by decide), if_neg (by decide), if_neg (by decide), if_neg (by decide), if_neg (by decide), if_pos rfl]) rfl rfl)
  · refine x_tableIn (tgt := 160) (off := 159) dX11_count_1 (by rw [c1]; decide) (by rw [c1]; decide) (by rw [c1]; rfl) (by decide) ?_
    refine x_aload_n dX11_count_160 0 rfl ?_
    refine x_get dX11_count_161 fX11_55 (m1) rfl ?_
    refine x_iconst dX11_count_164 ki_1 ?_
    refine x_iload_n dX11_count_165 1 rfl ?_
    refine x_iadd dX11_count_166 ?_
    refine x_bipush dX11_count_167 kb_8 ?_
    refine x_isub dX11_count_169 ?_
    refine x_topi (y := nI 4) (by rw [c1]; decide) ?_
    refine x_pc (pc' := 170) rfl ?_
    refine x_cV (N := mX2_bitsOf) (d' := 0) (mc := 0) (ms := 0) (cb := 0) (sb := 0) (As := [.int (nI 4)]) (st := []) dX11_count_170 mX2_bitsOf_v lX11_281 rfl rfl (hN.1) rfl (by decide) (Nat.le_of_ble_eq_true rfl) (Day_bitsOf hN hO) rfl (st1 := [.int (bitsOf c.1.1 c.1.2 (nI 4))]) rfl ?_
    exact x_iret dX11_count_173 rfl (xEx_i G (Cls_same hM hE) (by unfold countS; rw [c1, if_neg (by decide), if_neg (by decide), if_neg (by decide), if_neg (by decide), if_neg (by decide), if_neg (by decide), if_neg (by decide), if_neg (by decide), if_neg (by decide), if_neg (by decide), if_neg (by decide), if_pos rfl]) rfl rfl)
  · refine x_tableIn (tgt := 174) (off := 173) dX11_count_1 (by rw [c1]; decide) (by rw [c1]; decide) (by rw [c1]; rfl) (by decide) ?_
    refine x_aload_n dX11_count_174 0 rfl ?_
    refine x_get dX11_count_175 fX11_55 (m1) rfl ?_
    refine x_cV (N := mX2_saved) (d' := 0) (mc := 0) (ms := 0) (cb := 0) (sb := 0) (As := []) (st := []) dX11_count_178 mX2_saved_v lX11_192 rfl rfl (hN.1) rfl (by decide) (Nat.le_of_ble_eq_true rfl) (Day_saved hN hO) rfl (st1 := [.int (savedS c.1.1 c.1.2)]) rfl ?_
    exact x_iret dX11_count_181 rfl (xEx_i G (Cls_same hM hE) (by unfold countS; rw [c1, if_neg (by decide), if_neg (by decide), if_neg (by decide), if_neg (by decide), if_neg (by decide), if_neg (by decide), if_neg (by decide), if_neg (by decide), if_neg (by decide), if_neg (by decide), if_neg (by decide), if_neg (by decide), if_pos rfl]) rfl rfl)
  · refine x_tableIn (tgt := 182) (off := 181) dX11_count_1 (by rw [c1]; decide) (by rw [c1]; decide) (by rw [c1]; rfl) (by decide) ?_
    refine x_aload_n dX11_count_182 0 rfl ?_
    refine x_get dX11_count_183 fX11_47 (m1) rfl ?_
    refine x_get dX11_count_186 fX11_243 (s1) rfl ?_
    refine x_get dX11_count_189 fX11_247 (s2.1) rfl ?_
    exact x_iret dX11_count_192 rfl (xEx_i G (Cls_same hM hE) (by unfold countS; rw [c1, if_neg (by decide), if_neg (by decide), if_neg (by decide), if_neg (by decide), if_neg (by decide), if_neg (by decide), if_neg (by decide), if_neg (by decide), if_neg (by decide), if_neg (by decide), if_neg (by decide), if_neg (by decide), if_neg (by decide), if_pos rfl]) rfl rfl)
  · refine x_tableIn (tgt := 193) (off := 192) dX11_count_1 (by rw [c1]; decide) (by rw [c1]; decide) (by rw [c1]; rfl) (by decide) ?_
    refine x_aload_n dX11_count_193 0 rfl ?_
    refine x_get dX11_count_194 fX11_47 (m1) rfl ?_
    refine x_get dX11_count_197 fX11_182 (s1) rfl ?_
    exact x_iret dX11_count_200 rfl (xEx_i G (Cls_same hM hE) (by unfold countS; rw [c1, if_neg (by decide), if_neg (by decide), if_neg (by decide), if_neg (by decide), if_neg (by decide), if_neg (by decide), if_neg (by decide), if_neg (by decide), if_neg (by decide), if_neg (by decide), if_neg (by decide), if_neg (by decide), if_neg (by decide), if_neg (by decide), if_pos rfl]) rfl rfl)
  · refine x_tableIn (tgt := 201) (off := 200) dX11_count_1 (by rw [c1]; decide) (by rw [c1]; decide) (by rw [c1]; rfl) (by decide) ?_
    refine x_aload_n dX11_count_201 0 rfl ?_
    refine x_get dX11_count_202 fX11_47 (m1) rfl ?_
    refine x_get dX11_count_205 fX11_272 (s1) rfl ?_
    exact x_iret dX11_count_208 rfl (xEx_i G (Cls_same hM hE) (by unfold countS; rw [c1, if_neg (by decide), if_neg (by decide), if_neg (by decide), if_neg (by decide), if_neg (by decide), if_neg (by decide), if_neg (by decide), if_neg (by decide), if_neg (by decide), if_neg (by decide), if_neg (by decide), if_neg (by decide), if_neg (by decide), if_neg (by decide), if_neg (by decide), if_pos rfl]) rfl rfl)
  · refine x_tableIn (tgt := 209) (off := 208) dX11_count_1 (by rw [c1]; decide) (by rw [c1]; decide) (by rw [c1]; rfl) (by decide) ?_
    refine x_aload_n dX11_count_209 0 rfl ?_
    refine x_get dX11_count_210 fX11_69 (m1) rfl ?_
    exact x_iret dX11_count_213 rfl (xEx_i G (Cls_same hM hE) (by unfold countS; rw [c1, if_neg (by decide), if_neg (by decide), if_neg (by decide), if_neg (by decide), if_neg (by decide), if_neg (by decide), if_neg (by decide), if_neg (by decide), if_neg (by decide), if_neg (by decide), if_neg (by decide), if_neg (by decide), if_neg (by decide), if_neg (by decide), if_neg (by decide), if_neg (by decide), if_pos rfl]) rfl rfl)
  · refine x_tableOut (tgt := 214) dX11_count_1 (by omega) (by decide) ?_
    refine x_iconst dX11_count_214 ki_m1 ?_
    exact x_iret dX11_count_215 rfl (xEx_i G (Cls_same hM hE) (by unfold countS; rw [if_neg (fun e => absurd (e ▸ c1) (by decide)), if_neg (fun e => absurd (e ▸ c1) (by decide)), if_neg (fun e => absurd (e ▸ c1) (by decide)), if_neg (fun e => absurd (e ▸ c1) (by decide)), if_neg (fun e => absurd (e ▸ c1) (by decide)), if_neg (fun e => absurd (e ▸ c1) (by decide)), if_neg (fun e => absurd (e ▸ c1) (by decide)), if_neg (fun e => absurd (e ▸ c1) (by decide)), if_neg (fun e => absurd (e ▸ c1) (by decide)), if_neg (fun e => absurd (e ▸ c1) (by decide)), if_neg (fun e => absurd (e ▸ c1) (by decide)), if_neg (fun e => absurd (e ▸ c1) (by decide)), if_neg (fun e => absurd (e ▸ c1) (by decide)), if_neg (fun e => absurd (e ▸ c1) (by decide)), if_neg (fun e => absurd (e ▸ c1) (by decide)), if_neg (fun e => absurd (e ▸ c1) (by decide)), if_neg (fun e => absurd (e ▸ c1) (by decide))]) rfl rfl)
theorem Cls_seed {K : xG} {h x lo : Nat} {G : xHp} {tp : Nat → Nat} {tn : Nat} {rs : List (List Nat)} {c : xCo} {im : Nat → Option xCo} {v : Int32} (hC : ClsAt G h x lo tp tn rs c im) : xCall K mX11_seed 0 0 0 [.ref x, .int v] h G (clQ G h x lo (if v < 0 then -1 else nI c.2.2.1.2.2) tp tn rs (if v < 0 then c else (c.1, c.2.1, (c.2.2.1.1, c.2.2.1.2.1, thN v), c.2.2.2)) im) := by
  refine x_entry (by decide) (ls := [(0, .ref x), (1, .int v)]) rfl (Nat.le_of_ble_eq_true rfl) ?_
  obtain ⟨ruf, ima, ru, hM, hE⟩ := hC
  obtain ⟨m1, m2, m3, m4, m5, m6, m7, m8, m9⟩ := id hM
  obtain ⟨rows, nx, fi, fs, al, s1, s2, s3, s4, s5⟩ := id m7
  have hN : DayAt G (x + 26) c.1.1 c.1.2 (x + 16) ru := s4
  have hB := hN.2.1.2.2.2.2.2.2.2.2
  have hrc := hE.2.2.1
  have htn := m2.2.2
  refine x_iload_n dX11_seed_0 1 rfl ?_
  refine x_if_ge (tgt := 6) dX11_seed_1 (by decide) (fun c1 => ?_) (fun c1 => ?_)
  · have h1 := Int32.not_lt.mpr c1
    obtain ⟨k, hk, hv⟩ := nI_of h1
    have hth := thN_nI (t := k) hk
    subst hv
    refine x_aload_n dX11_seed_6 0 rfl ?_
    refine x_get dX11_seed_7 fX11_47 (m1) rfl ?_
    refine x_get dX11_seed_10 fX11_272 (s1) rfl ?_
    refine x_istore_n (ls' := [(2, .int (nI c.2.2.1.2.2)), (0, .ref x), (1, .int (nI k))]) dX11_seed_13 (by decide) rfl ?_
    refine x_aload_n dX11_seed_14 1 rfl ?_
    refine x_get dX11_seed_15 fX11_47 (m1) rfl ?_
    refine x_iload_n dX11_seed_18 2 rfl ?_
    refine x_pc (pc' := 19) rfl ?_
    refine x_put (fs' := [.ref (x + 26), .ref (x + 20), .int (bI c.2.2.1.1), .int c.2.2.1.2.1, .int (nI k), .ref (x + 25), .int (nI nx), .int (nI c.2.2.2.2)]) dX11_seed_19 fX11_272 (s1) (Nat.le_of_ble_eq_true rfl) rfl rfl rfl ?_
    refine x_iload_n dX11_seed_22 0 rfl ?_
    exact x_iret dX11_seed_23 rfl (xEx_i _ (by rw [if_neg h1, hth]; exact Cls_st hM hE ⟨rows, nx, fi, fs, al, xup_eq, s2.off (by omega), xup_of (by omega) s3, s4.off (by omega), s5⟩ (m6.fr (fun a p q => xup_ne (by omega))) (fun a ha => xup_ne (by omega)) hE.2.2.2.2.1) (by rw [if_neg h1]) rfl rfl)
  · refine x_iconst dX11_seed_4 ki_m1 ?_
    exact x_iret dX11_seed_5 rfl (xEx_i G (by rw [if_pos (Int32.not_le.mp c1)]; exact Cls_same hM hE) (by rw [if_pos (Int32.not_le.mp c1)]) rfl rfl)
