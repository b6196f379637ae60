theorem Cls_ahead {K : xG} {h x lo : Nat} {G : xHp} {tp : Nat → Nat} {tn : Nat} {rs : List (List Nat)} {c : xCo} {im : Nat → Option xCo} {v n w : Int32} (hC : ClsAt G h x lo tp tn rs c im) (hK : CoreOk c) : xCall K mX11_ahead 6 0 0 [.ref x, .int v, .int n, .int w] h G (clQ G h x lo (aheadS rs c v n w) tp tn rs c im) := by
  refine x_entry (by decide) (ls := [(0, .ref x), (1, .int v), (2, .int n), (3, .int w)]) rfl (Nat.le_of_ble_eq_true rfl) ?_
  obtain ⟨ruf, ima, ru, hM, hE⟩ := hC
  obtain ⟨m1, m2, m3, m4, m5, m6, m7, m8, m9⟩ := id hM
  obtain ⟨rows, nx, fi, fs, al, s1, s2, s3, s4, s5⟩ := id m7
  have hN : DayAt G (x + 26) c.1.1 c.1.2 (x + 16) ru := s4
  have hB := hN.2.1.2.2.2.2.2.2.2.2
  have hrc := hE.2.2.1
  have htn := m2.2.2
  obtain ⟨hO, hX, hK3, hK4, hK5, hK6, hK7, hK8, hK9, hK10⟩ := id hK
  obtain ⟨o2, o3, o4, o5, o6, o7, o8, o9⟩ := id hO
  obtain ⟨hk, rk, rt, ch, mo, tr, B, q1, q2, q3⟩ := id m8
  have hT : TrW G G x hk rk rt ch mo := ⟨q1, q2, m6, FrS.rf⟩
  refine x_aload_n dX11_ahead_0 0 rfl ?_
  refine x_get dX11_ahead_1 fX11_47 (m1) rfl ?_
  refine x_get dX11_ahead_4 fX11_151 (s1) rfl ?_
  refine x_ifB_eq (tgt := 21) dX11_ahead_7 (by decide) (fun c7 => ?_) (fun c7 => ?_)
  · refine x_bipush dX11_ahead_21 kb_m2 ?_
    exact x_iret dX11_ahead_23 rfl (xEx_i G (Cls_same hM hE) (by unfold aheadS; rw [if_neg (fun e => absurd (c7.symm.trans e.1) (by decide))]) rfl rfl)
  · refine x_iload_n dX11_ahead_10 2 rfl ?_
    refine x_if_lt (tgt := 21) dX11_ahead_11 (by decide) (fun c11 => ?_) (fun c11 => ?_)
    · refine x_bipush dX11_ahead_21 kb_m2 ?_
      exact x_iret dX11_ahead_23 rfl (xEx_i G (Cls_same hM hE) (by unfold aheadS; rw [if_neg (fun e => absurd ((inR_neg c11).symm.trans e.2) (by decide))]) rfl rfl)
    · refine x_iload_n dX11_ahead_14 2 rfl ?_
      refine x_sipush dX11_ahead_15 ks_400 ?_
      refine x_icmp_le (x := n) (y := nI 400) (tgt := 24) dX11_ahead_18 (by decide) (fun c18 => ?_) (fun c18 => ?_)
      · have hin : inR n 401 = true := inR_le (m := 400) (by decide) c11 c18
        have hin2 := hin
        obtain ⟨k, hk, hvk⟩ := inR_of hin
        subst hvk
        have hk1 := thN_nI (t := k) (by omega)
        refine x_pc (pc' := 24) rfl ?_
        refine x_iload_n dX11_ahead_24 3 rfl ?_
        rcases xsw_0_3 w with c25 | c25 | c25 | c25
        · refine x_tableIn (tgt := 52) (off := 27) dX11_ahead_25 (by rw [c25]; decide) (by rw [c25]; decide) (by rw [c25]; rfl) (by decide) ?_
          refine x_aload_n dX11_ahead_52 0 rfl ?_
          refine x_get dX11_ahead_53 fX11_55 (m1) rfl ?_
          refine x_get dX11_ahead_56 fX11_89 (hN.1) rfl ?_
          refine x_iload_n dX11_ahead_59 1 rfl ?_
          refine x_cV (N := mX3_isThing) (d' := 0) (mc := 0) (ms := 0) (cb := 0) (sb := 0) (As := [.int v]) (st := []) dX11_ahead_60 mX3_isThing_v lX11_116 rfl rfl (hN.2.1.1) rfl (by decide) (Nat.le_of_ble_eq_true rfl) (Hall_isThing hN.2.1) rfl (st1 := [.int (bI (inR v (c.1.1 0 4)))]) rfl ?_
          refine x_ifB_eq (tgt := 81) dX11_ahead_63 (by decide) (fun c63 => ?_) (fun c63 => ?_)
          · refine x_bipush dX11_ahead_81 kb_m2 ?_
            exact x_iret dX11_ahead_83 rfl (xEx_i G (Cls_same hM hE) (by unfold aheadS; rw [if_pos ⟨c7, hin2⟩, hk1, c25, if_pos rfl, if_neg (by rw [c63]; decide)]) rfl rfl)
          · have hc := c63
            obtain ⟨t, ht, hvt⟩ := inR_of c63
            subst hvt
            have ht1 := thN_nI (t := t) (by omega)
            refine x_aload_n dX11_ahead_66 0 rfl ?_
            refine x_get dX11_ahead_67 fX11_61 (m1) rfl ?_
            refine x_pc (pc' := 70) rfl ?_
            refine x_iload_n dX11_ahead_70 2 rfl ?_
            refine x_cVe (N := mX0_dayAfter) (d' := 5) (mc := 0) (ms := 0) (cb := 0) (sb := 0) (As := [.int (nI k)]) (st := []) dX11_ahead_71 mX0_dayAfter_v lX11_188 rfl rfl (q1) rfl (by decide) (Nat.le_of_ble_eq_true rfl) (Asks_dayAfter hN hT hE.rule hO hX.1 (by omega)) rfl (sf := fun e1 => [.ref (x + 37)]) (fun _ => rfl) (fun e1 hz1 => ?_)
            obtain ⟨r1, G1⟩ := e1
            obtain ⟨⟨v1, v2⟩, hT1⟩ := hz1
            simp only at v1 v2 hT1
            refine x_iload_n dX11_ahead_74 1 rfl ?_
            refine x_cV (N := mX2_howIs) (d' := 0) (mc := 0) (ms := 0) (cb := 0) (sb := 0) (As := [.int (nI t)]) (st := []) dX11_ahead_75 mX2_howIs_v lX11_132 rfl rfl (hT1.2.1.1) rfl (by decide) (Nat.le_of_ble_eq_true rfl) (Day_howIs hT1.2.1 (by omega)) rfl (st1 := [.int (r1 (21 + t))]) rfl ?_
            refine x_goto (tgt := 83) dX11_ahead_78 (by decide) ?_
            exact x_iret dX11_ahead_83 rfl (xEx_i G1 (Cls_ask hM hE hT1) (by unfold aheadS; rw [if_pos ⟨c7, hin2⟩, hk1, c25, if_pos rfl, if_pos hc, ht1, (v1.1 t ht).1]) rfl rfl)
        · refine x_tableIn (tgt := 84) (off := 59) dX11_ahead_25 (by rw [c25]; decide) (by rw [c25]; decide) (by rw [c25]; rfl) (by decide) ?_
          refine x_aload_n dX11_ahead_84 0 rfl ?_
          refine x_get dX11_ahead_85 fX11_55 (m1) rfl ?_
          refine x_get dX11_ahead_88 fX11_89 (hN.1) rfl ?_
          refine x_iload_n dX11_ahead_91 1 rfl ?_
          refine x_cV (N := mX3_isMender) (d' := 0) (mc := 0) (ms := 0) (cb := 0) (sb := 0) (As := [.int v]) (st := []) dX11_ahead_92 mX3_isMender_v lX11_138 rfl rfl (hN.2.1.1) rfl (by decide) (Nat.le_of_ble_eq_true rfl) (Hall_isMender hN.2.1) rfl (st1 := [.int (bI (inR v (c.1.1 0 3)))]) rfl ?_
          refine x_ifB_eq (tgt := 116) dX11_ahead_95 (by decide) (fun c95 => ?_) (fun c95 => ?_)
          · refine x_bipush dX11_ahead_116 kb_m2 ?_
            exact x_iret dX11_ahead_118 rfl (xEx_i G (Cls_same hM hE) (by unfold aheadS; rw [if_pos ⟨c7, hin2⟩, hk1, c25, if_neg (by decide), if_pos rfl, if_neg (by rw [c95]; decide)]) rfl rfl)
          · have hc := c95
            obtain ⟨q, hq, hvq⟩ := inR_of c95
            subst hvq
            have hq1 := thN_nI (t := q) (by omega)
            refine x_aload_n dX11_ahead_98 0 rfl ?_
            refine x_get dX11_ahead_99 fX11_61 (m1) rfl ?_
            refine x_pc (pc' := 102) rfl ?_
            refine x_iload_n dX11_ahead_102 2 rfl ?_
            refine x_cVe (N := mX0_dayAfter) (d' := 5) (mc := 0) (ms := 0) (cb := 0) (sb := 0) (As := [.int (nI k)]) (st := []) dX11_ahead_103 mX0_dayAfter_v lX11_188 rfl rfl (q1) rfl (by decide) (Nat.le_of_ble_eq_true rfl) (Asks_dayAfter hN hT hE.rule hO hX.1 (by omega)) rfl (sf := fun e1 => [.ref (x + 37)]) (fun _ => rfl) (fun e1 hz1 => ?_)
            obtain ⟨r1, G1⟩ := e1
            obtain ⟨⟨v1, v2⟩, hT1⟩ := hz1
            simp only at v1 v2 hT1
            refine x_get dX11_ahead_106 fX11_135 (hT1.2.1.1) rfl ?_
            refine x_iconst dX11_ahead_109 ki_5 ?_
            refine x_iload_n dX11_ahead_110 1 rfl ?_
            refine x_iaddN dX11_ahead_111 ?_
            refine x_ialdN dX11_ahead_112 (hT1.2.1.2.2) (by omega) (by decide) ?_
            refine x_goto (tgt := 118) dX11_ahead_113 (by decide) ?_
            exact x_iret dX11_ahead_118 rfl (xEx_i G1 (Cls_ask hM hE hT1) (by unfold aheadS; rw [if_pos ⟨c7, hin2⟩, hk1, c25, if_neg (by decide), if_pos rfl, if_pos hc, hq1, v1.2 q hq]) rfl rfl)
        · refine x_tableIn (tgt := 119) (off := 94) dX11_ahead_25 (by rw [c25]; decide) (by rw [c25]; decide) (by rw [c25]; rfl) (by decide) ?_
          refine x_aload_n dX11_ahead_119 0 rfl ?_
          refine x_get dX11_ahead_120 fX11_61 (m1) rfl ?_
          refine x_iload_n dX11_ahead_123 2 rfl ?_
          refine x_cVe (N := mX0_dayAfter) (d' := 5) (mc := 0) (ms := 0) (cb := 0) (sb := 0) (As := [.int (nI k)]) (st := []) dX11_ahead_124 mX0_dayAfter_v lX11_188 rfl rfl (q1) rfl (by decide) (Nat.le_of_ble_eq_true rfl) (Asks_dayAfter hN hT hE.rule hO hX.1 (by omega)) rfl (sf := fun e1 => [.ref (x + 37)]) (fun _ => rfl) (fun e1 hz1 => ?_)
          obtain ⟨r1, G1⟩ := e1
          obtain ⟨⟨v1, v2⟩, hT1⟩ := hz1
          simp only at v1 v2 hT1
          refine x_cV (N := mX2_saved) (d' := 0) (mc := 0) (ms := 0) (cb := 0) (sb := 0) (As := []) (st := []) dX11_ahead_127 mX2_saved_v lX11_192 rfl rfl (hT1.2.1.1) rfl (by decide) (Nat.le_of_ble_eq_true rfl) (Day_saved hT1.2.1 hO) rfl (st1 := [.int (savedS c.1.1 r1)]) rfl ?_
          exact x_iret dX11_ahead_130 rfl (xEx_i G1 (Cls_ask hM hE hT1) (by unfold aheadS; rw [if_pos ⟨c7, hin2⟩, hk1, c25, if_neg (by decide), if_neg (by decide), if_pos rfl, v1.saved]) rfl rfl)
        · refine x_tableOut (tgt := 131) dX11_ahead_25 (by omega) (by decide) ?_
          refine x_bipush dX11_ahead_131 kb_m2 ?_
          exact x_iret dX11_ahead_133 rfl (xEx_i G (Cls_same hM hE) (by unfold aheadS; rw [if_pos ⟨c7, hin2⟩, hk1, if_neg (fun e => absurd (e ▸ c25) (by decide)), if_neg (fun e => absurd (e ▸ c25) (by decide)), if_neg (fun e => absurd (e ▸ c25) (by decide))]) rfl rfl)
      · refine x_pc (pc' := 21) rfl ?_
        refine x_bipush dX11_ahead_21 kb_m2 ?_
        exact x_iret dX11_ahead_23 rfl (xEx_i G (Cls_same hM hE) (by unfold aheadS; rw [if_neg (fun e => absurd ((inR_gt (m := 400) (by decide) c18).symm.trans e.2) (by decide))]) rfl rfl)
theorem Cls_done {K : xG} {h x lo : Nat} {G : xHp} {tp : Nat → Nat} {tn : Nat} {rs : List (List Nat)} {c : xCo} {im : Nat → Option xCo} {v : Int32} (hC : ClsAt G h x lo tp tn rs c im) (hK : CoreOk c) : xCall K mX11_done 6 0 0 [.ref x, .int v] h G (clQ G h x lo (doneC rs c v) tp tn rs c im) := by
  refine x_entry (by decide) (ls := [(0, .ref x), (1, .int v)]) rfl (Nat.le_of_ble_eq_true rfl) ?_
  obtain ⟨ruf, ima, ru, hM, hE⟩ := hC
  obtain ⟨m1, m2, m3, m4, m5, m6, m7, m8, m9⟩ := id hM
  obtain ⟨rows, nx, fi, fs, al, s1, s2, s3, s4, s5⟩ := id m7
  have hN : DayAt G (x + 26) c.1.1 c.1.2 (x + 16) ru := s4
  have hB := hN.2.1.2.2.2.2.2.2.2.2
  have hrc := hE.2.2.1
  have htn := m2.2.2
  obtain ⟨hO, hX, hK3, hK4, hK5, hK6, hK7, hK8, hK9, hK10⟩ := id hK
  obtain ⟨o2, o3, o4, o5, o6, o7, o8, o9⟩ := id hO
  obtain ⟨hk, rk, rt, ch, mo, tr, B, q1, q2, q3⟩ := id m8
  have hT : TrW G G x hk rk rt ch mo := ⟨q1, q2, m6, FrS.rf⟩
  refine x_aload_n dX11_done_0 0 rfl ?_
  refine x_get dX11_done_1 fX11_55 (m1) rfl ?_
  refine x_get dX11_done_4 fX11_89 (hN.1) rfl ?_
  refine x_iload_n dX11_done_7 1 rfl ?_
  refine x_cV (N := mX3_isThing) (d' := 0) (mc := 0) (ms := 0) (cb := 0) (sb := 0) (As := [.int v]) (st := []) dX11_done_8 mX3_isThing_v lX11_116 rfl rfl (hN.2.1.1) rfl (by decide) (Nat.le_of_ble_eq_true rfl) (Hall_isThing hN.2.1) rfl (st1 := [.int (bI (inR v (c.1.1 0 4)))]) rfl ?_
  refine x_ifB_eq (tgt := 25) dX11_done_11 (by decide) (fun c11 => ?_) (fun c11 => ?_)
  · refine x_iconst dX11_done_25 ki_m1 ?_
    exact x_iret dX11_done_26 rfl (xEx_i G (Cls_same hM hE) (by unfold doneC; rw [if_neg (by rw [c11]; decide)]) rfl rfl)
  · have hc := c11
    obtain ⟨t, ht, hvt⟩ := inR_of c11
    subst hvt
    have ht1 := thN_nI (t := t) (by omega)
    refine x_aload_n dX11_done_14 0 rfl ?_
    refine x_get dX11_done_15 fX11_61 (m1) rfl ?_
    refine x_iload_n dX11_done_18 1 rfl ?_
    refine x_pc (pc' := 19) rfl ?_
    refine x_cVe (N := mX0_whenMended) (d' := 5) (mc := 0) (ms := 0) (cb := 0) (sb := 0) (As := [.int (nI t)]) (st := []) dX11_done_19 mX0_whenMended_v lX11_195 rfl rfl (q1) rfl (by decide) (Nat.le_of_ble_eq_true rfl) (Asks_whenMended hN hT hE.rule hO hX.1 (by omega)) rfl (sf := fun e1 => [.int (doneS c.1.1 (rvC rs c) c.1.2 t)]) (fun _ => rfl) (fun e1 hz1 => ?_)
    obtain ⟨h1, r1, G1⟩ := e1
    have hT1 : TrW G G1 x h1 r1 ru ch mo := hz1
    refine x_goto (tgt := 26) dX11_done_22 (by decide) ?_
    exact x_iret dX11_done_26 rfl (xEx_i G1 (Cls_ask hM hE hT1) (by unfold doneC; rw [if_pos hc, ht1]) rfl rfl)
theorem Cls_waits {K : xG} {h x lo : Nat} {G : xHp} {tp : Nat → Nat} {tn : Nat} {rs : List (List Nat)} {c : xCo} {im : Nat → Option xCo} {v : Int32} (hC : ClsAt G h x lo tp tn rs c im) (hK : CoreOk c) : xCall K mX11_waits 6 0 0 [.ref x, .int v] h G (clQ G h x lo (waitsC rs c v) tp tn rs c im) := by
  refine x_entry (by decide) (ls := [(0, .ref x), (1, .int v)]) rfl (Nat.le_of_ble_eq_true rfl) ?_
  obtain ⟨ruf, ima, ru, hM, hE⟩ := hC
  obtain ⟨m1, m2, m3, m4, m5, m6, m7, m8, m9⟩ := id hM
  obtain ⟨rows, nx, fi, fs, al, s1, s2, s3, s4, s5⟩ := id m7
  have hN : DayAt G (x + 26) c.1.1 c.1.2 (x + 16) ru := s4
  have hB := hN.2.1.2.2.2.2.2.2.2.2
  have hrc := hE.2.2.1
  have htn := m2.2.2
  obtain ⟨hO, hX, hK3, hK4, hK5, hK6, hK7, hK8, hK9, hK10⟩ := id hK
  obtain ⟨o2, o3, o4, o5, o6, o7, o8, o9⟩ := id hO
  obtain ⟨hk, rk, rt, ch, mo, tr, B, q1, q2, q3⟩ := id m8
  have hT : TrW G G x hk rk rt ch mo := ⟨q1, q2, m6, FrS.rf⟩
  refine x_aload_n dX11_waits_0 0 rfl ?_
  refine x_get dX11_waits_1 fX11_55 (m1) rfl ?_
  refine x_get dX11_waits_4 fX11_89 (hN.1) rfl ?_
  refine x_iload_n dX11_waits_7 1 rfl ?_
  refine x_cV (N := mX3_isThing) (d' := 0) (mc := 0) (ms := 0) (cb := 0) (sb := 0) (As := [.int v]) (st := []) dX11_waits_8 mX3_isThing_v lX11_116 rfl rfl (hN.2.1.1) rfl (by decide) (Nat.le_of_ble_eq_true rfl) (Hall_isThing hN.2.1) rfl (st1 := [.int (bI (inR v (c.1.1 0 4)))]) rfl ?_
  refine x_ifB_eq (tgt := 26) dX11_waits_11 (by decide) (fun c11 => ?_) (fun c11 => ?_)
  · refine x_iconst dX11_waits_26 ki_m1 ?_
    exact x_iret dX11_waits_27 rfl (xEx_i G (Cls_same hM hE) (by unfold waitsC; rw [if_neg (fun e => absurd (c11.symm.trans e.1) (by decide))]) rfl rfl)
  · have hc := c11
    obtain ⟨t, ht, hvt⟩ := inR_of c11
    subst hvt
    have ht1 := thN_nI (t := t) (by omega)
    refine x_aload_n dX11_waits_14 0 rfl ?_
    refine x_get dX11_waits_15 fX11_55 (m1) rfl ?_
    refine x_iload_n dX11_waits_18 1 rfl ?_
    refine x_pc (pc' := 19) rfl ?_
    refine x_cV (N := mX2_howIs) (d' := 0) (mc := 0) (ms := 0) (cb := 0) (sb := 0) (As := [.int (nI t)]) (st := []) dX11_waits_19 mX2_howIs_v lX11_132 rfl rfl (hN.1) rfl (by decide) (Nat.le_of_ble_eq_true rfl) (Day_howIs hN (by omega)) rfl (st1 := [.int (c.1.2 (21 + t))]) rfl ?_
    refine x_iconst dX11_waits_22 ki_1 ?_
    refine x_icmp_le (x := c.1.2 (21 + t)) (y := nI 1) (tgt := 28) dX11_waits_23 (by decide) (fun c23 => ?_) (fun c23 => ?_)
    · refine x_aload_n dX11_waits_28 0 rfl ?_
      refine x_get dX11_waits_29 fX11_61 (m1) rfl ?_
      refine x_iload_n dX11_waits_32 1 rfl ?_
      refine x_cVe (N := mX0_minutesTillTaken) (d' := 4) (mc := 0) (ms := 0) (cb := 0) (sb := 0) (As := [.int (nI t)]) (st := []) dX11_waits_33 mX0_minutesTillTaken_v lX11_198 rfl rfl (q1) rfl (by decide) (Nat.le_of_ble_eq_true rfl) (Asks_minutesTillTaken hN hT hE.rule hO hX.1 (by omega)) rfl (sf := fun e1 => [.int (wtF c.1.1 (rvC rs c) t 400 c.1.2)]) (fun _ => rfl) (fun e1 hz1 => ?_)
      obtain ⟨h1, r1, G1⟩ := e1
      have hT1 : TrW G G1 x h1 r1 ru ch mo := hz1
      exact x_iret dX11_waits_36 rfl (xEx_i G1 (Cls_ask hM hE hT1) (by unfold waitsC; rw [if_pos ⟨hc, by rw [ht1]; exact c23⟩, ht1]) rfl rfl)
    · refine x_iconst dX11_waits_26 ki_m1 ?_
      exact x_iret dX11_waits_27 rfl (xEx_i G (Cls_same hM hE) (by unfold waitsC; rw [if_neg (fun e => by have e2 := e.2; rw [ht1] at e2; exact c23 e2)]) rfl rfl)
theorem Cls_take {K : xG} {h x lo : Nat} {G : xHp} {tp : Nat → Nat} {tn : Nat} {rs : List (List Nat)} {c : xCo} {im : Nat → Option xCo} {v w : Int32} (hC : ClsAt G h x lo tp tn rs c im) (hK : CoreOk c) : xCall K mX11_take 7 0 0 [.ref x, .int v, .int w] h G (clQ G h x lo (takeC rs c v w) tp tn rs c im) := by
  refine x_entry (by decide) (ls := [(0, .ref x), (1, .int v), (2, .int w)]) rfl (Nat.le_of_ble_eq_true rfl) ?_
  obtain ⟨ruf, ima, ru, hM, hE⟩ := hC
  obtain ⟨m1, m2, m3, m4, m5, m6, m7, m8, m9⟩ := id hM
  obtain ⟨rows, nx, fi, fs, al, s1, s2, s3, s4, s5⟩ := id m7
  have hN : DayAt G (x + 26) c.1.1 c.1.2 (x + 16) ru := s4
  have hB := hN.2.1.2.2.2.2.2.2.2.2
  have hrc := hE.2.2.1
  have htn := m2.2.2
  obtain ⟨hO, hX, hK3, hK4, hK5, hK6, hK7, hK8, hK9, hK10⟩ := id hK
  obtain ⟨o2, o3, o4, o5, o6, o7, o8, o9⟩ := id hO
  obtain ⟨hk, rk, rt, ch, mo, tr, B, q1, q2, q3⟩ := id m8
  have hT : TrW G G x hk rk rt ch mo := ⟨q1, q2, m6, FrS.rf⟩
  refine x_aload_n dX11_take_0 0 rfl ?_
  refine x_get dX11_take_1 fX11_55 (m1) rfl ?_
  refine x_get dX11_take_4 fX11_89 (hN.1) rfl ?_
  refine x_iload_n dX11_take_7 1 rfl ?_
  refine x_cV (N := mX3_isMender) (d' := 0) (mc := 0) (ms := 0) (cb := 0) (sb := 0) (As := [.int v]) (st := []) dX11_take_8 mX3_isMender_v lX11_138 rfl rfl (hN.2.1.1) rfl (by decide) (Nat.le_of_ble_eq_true rfl) (Hall_isMender hN.2.1) rfl (st1 := [.int (bI (inR v (c.1.1 0 3)))]) rfl ?_
  refine x_ifB_eq (tgt := 34) dX11_take_11 (by decide) (fun c11 => ?_) (fun c11 => ?_)
  · refine x_bipush dX11_take_34 kb_m2 ?_
    exact x_iret dX11_take_36 rfl (xEx_i G (Cls_same hM hE) (by unfold takeC; rw [if_neg (fun e => absurd (c11.symm.trans e.1) (by decide))]) rfl rfl)
  · have hc := c11
    obtain ⟨q, hq, hvq⟩ := inR_of c11
    subst hvq
    have hq1 := thN_nI (t := q) (by omega)
    refine x_aload_n dX11_take_14 0 rfl ?_
    refine x_get dX11_take_15 fX11_55 (m1) rfl ?_
    refine x_iload_n dX11_take_18 1 rfl ?_
    refine x_pc (pc' := 19) rfl ?_
    refine x_cV (N := mX2_isFree) (d' := 0) (mc := 0) (ms := 0) (cb := 0) (sb := 0) (As := [.int (nI q)]) (st := []) dX11_take_19 mX2_isFree_v lX11_165 rfl rfl (hN.1) rfl (by decide) (Nat.le_of_ble_eq_true rfl) (Day_isFree hN (by omega)) rfl (st1 := [.int (bI (decide (c.1.2 (5 + q) = -1)))]) rfl ?_
    refine x_ifB_eq (tgt := 34) dX11_take_22 (by decide) (fun c22 => ?_) (fun c22 => ?_)
    · refine x_bipush dX11_take_34 kb_m2 ?_
      exact x_iret dX11_take_36 rfl (xEx_i G (Cls_same hM hE) (by unfold takeC; rw [if_neg (fun e => by have e2 := e.2.1; rw [hq1] at e2; exact of_decide_eq_false c22 e2)]) rfl rfl)
    · refine x_iload_n dX11_take_25 2 rfl ?_
      refine x_if_lt (tgt := 34) dX11_take_26 (by decide) (fun c26 => ?_) (fun c26 => ?_)
      · refine x_bipush dX11_take_34 kb_m2 ?_
        exact x_iret dX11_take_36 rfl (xEx_i G (Cls_same hM hE) (by unfold takeC; rw [if_neg (fun e => absurd ((inR_neg c26).symm.trans e.2.2) (by decide))]) rfl rfl)
      · refine x_iload_n dX11_take_29 2 rfl ?_
        refine x_iconst dX11_take_30 ki_1 ?_
        refine x_icmp_le (x := w) (y := nI 1) (tgt := 37) dX11_take_31 (by decide) (fun c31 => ?_) (fun c31 => ?_)
        · refine x_aload_n dX11_take_37 0 rfl ?_
          refine x_get dX11_take_38 fX11_61 (m1) rfl ?_
          refine x_iload_n dX11_take_41 1 rfl ?_
          refine x_pc (pc' := 42) rfl ?_
          refine x_cVe (N := mX0_findTake) (d' := 6) (mc := 0) (ms := 0) (cb := 0) (sb := 0) (As := [.int (nI q)]) (st := []) dX11_take_42 mX0_findTake_v lX11_201 rfl rfl (q1) rfl (by decide) (Nat.le_of_ble_eq_true rfl) (Asks_findTake hN hT hE.rule hO hX.1 hq (of_decide_eq_true c22)) rfl (sf := fun e1 => []) (fun _ => rfl) (fun e1 hz1 => ?_)
          obtain ⟨⟨h1, r1, u1⟩, G1⟩ := e1
          have hT1 : TrW G G1 x h1 r1 u1 (tryF (rvC rs c) (candT c.1.1 c.1.2 q) (-1, savG c.1.1 (rvC rs c) c.1.2) (c.1.1 0 4)).1 (tryF (rvC rs c) (candT c.1.1 c.1.2 q) (-1, savG c.1.1 (rvC rs c) c.1.2) (c.1.1 0 4)).2 := hz1
          have n1 : G1 x = some (clsO x tn rs.length) := (hT1.2.2.2 _ (by omega)).trans m1
          refine x_iload_n dX11_take_45 2 rfl ?_
          refine x_if_ne (tgt := 59) dX11_take_46 (by decide) (fun c46 => ?_) (fun c46 => ?_)
          · refine x_aload_n dX11_take_59 0 rfl ?_
            refine x_get dX11_take_60 fX11_61 (n1) rfl ?_
            refine x_get dX11_take_63 fX11_207 (hT1.1) rfl ?_
            exact x_iret dX11_take_66 rfl (xEx_i G1 (Cls_ask hM hE hT1) (by unfold takeC; rw [if_pos ⟨hc, by rw [hq1]; exact of_decide_eq_true c22, inR_le (m := 1) (by decide) c26 c31⟩, hq1, if_neg c46]) rfl rfl)
          · refine x_aload_n dX11_take_49 0 rfl ?_
            refine x_get dX11_take_50 fX11_61 (n1) rfl ?_
            refine x_get dX11_take_53 fX11_204 (hT1.1) rfl ?_
            refine x_goto (tgt := 66) dX11_take_56 (by decide) ?_
            exact x_iret dX11_take_66 rfl (xEx_i G1 (Cls_ask hM hE hT1) (by unfold takeC; rw [if_pos ⟨hc, by rw [hq1]; exact of_decide_eq_true c22, inR_le (m := 1) (by decide) c26 c31⟩, hq1, if_pos c46]) rfl rfl)
        · refine x_bipush dX11_take_34 kb_m2 ?_
          exact x_iret dX11_take_36 rfl (xEx_i G (Cls_same hM hE) (by unfold takeC; rw [if_neg (fun e => absurd ((inR_gt (m := 1) (by decide) c31).symm.trans e.2.2) (by decide))]) rfl rfl)
theorem Cls_part {K : xG} {h x lo : Nat} {G : xHp} {tp : Nat → Nat} {tn : Nat} {rs : List (List Nat)} {c : xCo} {im : Nat → Option xCo} {w : Int32} (hC : ClsAt G h x lo tp tn rs c im) (hK : CoreOk c) : xCall K mX11_part 7 0 0 [.ref x, .int w] h G (clQ G h x lo (partC rs c w) tp tn rs c im) := by
  refine x_entry (by decide) (ls := [(0, .ref x), (1, .int w)]) rfl (Nat.le_of_ble_eq_true rfl) ?_
  obtain ⟨ruf, ima, ru, hM, hE⟩ := hC
  obtain ⟨m1, m2, m3, m4, m5, m6, m7, m8, m9⟩ := id hM
  obtain ⟨rows, nx, fi, fs, al, s1, s2, s3, s4, s5⟩ := id m7
  have hN : DayAt G (x + 26) c.1.1 c.1.2 (x + 16) ru := s4
  have hB := hN.2.1.2.2.2.2.2.2.2.2
  have hrc := hE.2.2.1
  have htn := m2.2.2
  obtain ⟨hO, hX, hK3, hK4, hK5, hK6, hK7, hK8, hK9, hK10⟩ := id hK
  obtain ⟨o2, o3, o4, o5, o6, o7, o8, o9⟩ := id hO
  obtain ⟨hk, rk, rt, ch, mo, tr, B, q1, q2, q3⟩ := id m8
  have hT : TrW G G x hk rk rt ch mo := ⟨q1, q2, m6, FrS.rf⟩
  refine x_aload_n dX11_part_0 0 rfl ?_
  refine x_get dX11_part_1 fX11_47 (m1) rfl ?_
  refine x_get dX11_part_4 fX11_151 (s1) rfl ?_
  refine x_ifB_eq (tgt := 19) dX11_part_7 (by decide) (fun c7 => ?_) (fun c7 => ?_)
  · refine x_bipush dX11_part_19 kb_m2 ?_
    exact x_iret dX11_part_21 rfl (xEx_i G (Cls_same hM hE) (by unfold partC; rw [if_neg (fun e => absurd (c7.symm.trans e.1) (by decide))]) rfl rfl)
  · refine x_iload_n dX11_part_10 1 rfl ?_
    refine x_if_lt (tgt := 19) dX11_part_11 (by decide) (fun c11 => ?_) (fun c11 => ?_)
    · refine x_bipush dX11_part_19 kb_m2 ?_
      exact x_iret dX11_part_21 rfl (xEx_i G (Cls_same hM hE) (by unfold partC; rw [if_neg (fun e => absurd ((inR_neg c11).symm.trans e.2) (by decide))]) rfl rfl)
    · refine x_iload_n dX11_part_14 1 rfl ?_
      refine x_iconst dX11_part_15 ki_1 ?_
      refine x_icmp_le (x := w) (y := nI 1) (tgt := 22) dX11_part_16 (by decide) (fun c16 => ?_) (fun c16 => ?_)
      · refine x_pc (pc' := 22) rfl ?_
        refine x_aload_n dX11_part_22 0 rfl ?_
        refine x_get dX11_part_23 fX11_61 (m1) rfl ?_
        refine x_cVe (N := mX0_findPart) (d' := 6) (mc := 0) (ms := 0) (cb := 0) (sb := 0) (As := []) (st := []) dX11_part_26 mX0_findPart_v lX11_231 rfl rfl (q1) rfl (by decide) (Nat.le_of_ble_eq_true rfl) (Asks_findPart hN hT hE.rule hO hX.1 (fun s hs => (hX.2.2.1 s hs).elim (fun p q => ⟨p, by omega, q.2⟩))) rfl (sf := fun e1 => []) (fun _ => rfl) (fun e1 hz1 => ?_)
        obtain ⟨⟨h1, r1, u1⟩, G1⟩ := e1
        have hT1 : TrW G G1 x h1 r1 u1 (tryF (rvC rs c) (fun s => some (c.1.1, partR c.1.2 s)) (-1, savG c.1.1 (rvC rs c) c.1.2) (c.1.1 0 2)).1 (tryF (rvC rs c) (fun s => some (c.1.1, partR c.1.2 s)) (-1, savG c.1.1 (rvC rs c) c.1.2) (c.1.1 0 2)).2 := hz1
        have n1 : G1 x = some (clsO x tn rs.length) := (hT1.2.2.2 _ (by omega)).trans m1
        refine x_iload_n dX11_part_29 1 rfl ?_
        refine x_if_ne (tgt := 43) dX11_part_30 (by decide) (fun c30 => ?_) (fun c30 => ?_)
        · refine x_aload_n dX11_part_43 0 rfl ?_
          refine x_get dX11_part_44 fX11_61 (n1) rfl ?_
          refine x_get dX11_part_47 fX11_207 (hT1.1) rfl ?_
          exact x_iret dX11_part_50 rfl (xEx_i G1 (Cls_ask hM hE hT1) (by unfold partC; rw [if_pos ⟨c7, inR_le (m := 1) (by decide) c11 c16⟩, if_neg c30]) rfl rfl)
        · refine x_aload_n dX11_part_33 0 rfl ?_
          refine x_get dX11_part_34 fX11_61 (n1) rfl ?_
          refine x_get dX11_part_37 fX11_204 (hT1.1) rfl ?_
          refine x_goto (tgt := 50) dX11_part_40 (by decide) ?_
          exact x_iret dX11_part_50 rfl (xEx_i G1 (Cls_ask hM hE hT1) (by unfold partC; rw [if_pos ⟨c7, inR_le (m := 1) (by decide) c11 c16⟩, if_pos c30]) rfl rfl)
      · refine x_pc (pc' := 19) rfl ?_
        refine x_bipush dX11_part_19 kb_m2 ?_
        exact x_iret dX11_part_21 rfl (xEx_i G (Cls_same hM hE) (by unfold partC; rw [if_neg (fun e => absurd ((inR_gt (m := 1) (by decide) c16).symm.trans e.2) (by decide))]) rfl rfl)
theorem Cls_askIn {K : xG} {h x lo : Nat} {G : xHp} {tp : Nat → Nat} {tn : Nat} {rs : List (List Nat)} {c : xCo} {im : Nat → Option xCo} {w : Int32} (hC : ClsAt G h x lo tp tn rs c im) (hK : CoreOk c) (hgs : ∀ i, i < 4 → c.1.1 3 (c.1.1 0 3 * 4 + i) ≤ 60) : xCall K mX11_askIn 7 0 0 [.ref x, .int w] h G (clQ G h x lo (askInC rs c w) tp tn rs c im) := by
  refine x_entry (by decide) (ls := [(0, .ref x), (1, .int w)]) rfl (Nat.le_of_ble_eq_true rfl) ?_
  obtain ⟨ruf, ima, ru, hM, hE⟩ := hC
  obtain ⟨m1, m2, m3, m4, m5, m6, m7, m8, m9⟩ := id hM
  obtain ⟨rows, nx, fi, fs, al, s1, s2, s3, s4, s5⟩ := id m7
  have hN : DayAt G (x + 26) c.1.1 c.1.2 (x + 16) ru := s4
  have hB := hN.2.1.2.2.2.2.2.2.2.2
  have hrc := hE.2.2.1
  have htn := m2.2.2
  obtain ⟨hO, hX, hK3, hK4, hK5, hK6, hK7, hK8, hK9, hK10⟩ := id hK
  obtain ⟨o2, o3, o4, o5, o6, o7, o8, o9⟩ := id hO
  obtain ⟨hk, rk, rt, ch, mo, tr, B, q1, q2, q3⟩ := id m8
  have hT : TrW G G x hk rk rt ch mo := ⟨q1, q2, m6, FrS.rf⟩
  refine x_aload_n dX11_askIn_0 0 rfl ?_
  refine x_get dX11_askIn_1 fX11_47 (m1) rfl ?_
  refine x_get dX11_askIn_4 fX11_151 (s1) rfl ?_
  refine x_ifB_eq (tgt := 19) dX11_askIn_7 (by decide) (fun c7 => ?_) (fun c7 => ?_)
  · refine x_bipush dX11_askIn_19 kb_m2 ?_
    exact x_iret dX11_askIn_21 rfl (xEx_i G (Cls_same hM hE) (by unfold askInC; rw [if_neg (fun e => absurd (c7.symm.trans e.1) (by decide))]) rfl rfl)
  · refine x_iload_n dX11_askIn_10 1 rfl ?_
    refine x_if_lt (tgt := 19) dX11_askIn_11 (by decide) (fun c11 => ?_) (fun c11 => ?_)
    · refine x_bipush dX11_askIn_19 kb_m2 ?_
      exact x_iret dX11_askIn_21 rfl (xEx_i G (Cls_same hM hE) (by unfold askInC; rw [if_neg (fun e => absurd ((inR_neg c11).symm.trans e.2) (by decide))]) rfl rfl)
    · refine x_iload_n dX11_askIn_14 1 rfl ?_
      refine x_iconst dX11_askIn_15 ki_1 ?_
      refine x_icmp_le (x := w) (y := nI 1) (tgt := 22) dX11_askIn_16 (by decide) (fun c16 => ?_) (fun c16 => ?_)
      · refine x_pc (pc' := 22) rfl ?_
        refine x_aload_n dX11_askIn_22 0 rfl ?_
        refine x_get dX11_askIn_23 fX11_61 (m1) rfl ?_
        refine x_cVe (N := mX0_findGuest) (d' := 6) (mc := 0) (ms := 0) (cb := 0) (sb := 0) (As := []) (st := []) dX11_askIn_26 mX0_findGuest_v lX11_234 rfl rfl (q1) rfl (by decide) (Nat.le_of_ble_eq_true rfl) (Asks_findGuest hN hT hE.rule hO hX.1 (fun q => hX.2.2.2.1 (hK6.mp c7) _ (Nat.le_refl _) q) hgs) rfl (sf := fun e1 => []) (fun _ => rfl) (fun e1 hz1 => ?_)
        obtain ⟨⟨h1, r1, u1⟩, G1⟩ := e1
        have hT1 : TrW G G1 x h1 r1 u1 (tryF (rvC rs c) (candG c.1.1 c.1.2) (-1, savG c.1.1 (rvC rs c) c.1.2) (c.1.1 0 2)).1 (tryF (rvC rs c) (candG c.1.1 c.1.2) (-1, savG c.1.1 (rvC rs c) c.1.2) (c.1.1 0 2)).2 := hz1
        have n1 : G1 x = some (clsO x tn rs.length) := (hT1.2.2.2 _ (by omega)).trans m1
        refine x_iload_n dX11_askIn_29 1 rfl ?_
        refine x_if_ne (tgt := 43) dX11_askIn_30 (by decide) (fun c30 => ?_) (fun c30 => ?_)
        · refine x_aload_n dX11_askIn_43 0 rfl ?_
          refine x_get dX11_askIn_44 fX11_61 (n1) rfl ?_
          refine x_get dX11_askIn_47 fX11_207 (hT1.1) rfl ?_
          exact x_iret dX11_askIn_50 rfl (xEx_i G1 (Cls_ask hM hE hT1) (by unfold askInC; rw [if_pos ⟨c7, inR_le (m := 1) (by decide) c11 c16⟩, if_neg c30]) rfl rfl)
        · refine x_aload_n dX11_askIn_33 0 rfl ?_
          refine x_get dX11_askIn_34 fX11_61 (n1) rfl ?_
          refine x_get dX11_askIn_37 fX11_204 (hT1.1) rfl ?_
          refine x_goto (tgt := 50) dX11_askIn_40 (by decide) ?_
          exact x_iret dX11_askIn_50 rfl (xEx_i G1 (Cls_ask hM hE hT1) (by unfold askInC; rw [if_pos ⟨c7, inR_le (m := 1) (by decide) c11 c16⟩, if_pos c30]) rfl rfl)
      · refine x_pc (pc' := 19) rfl ?_
        refine x_bipush dX11_askIn_19 kb_m2 ?_
        exact x_iret dX11_askIn_21 rfl (xEx_i G (Cls_same hM hE) (by unfold askInC; rw [if_neg (fun e => absurd ((inR_gt (m := 1) (by decide) c16).symm.trans e.2) (by decide))]) rfl rfl)
theorem Cls_late {K : xG} {h x lo : Nat} {G : xHp} {tp : Nat → Nat} {tn : Nat} {rs : List (List Nat)} {c : xCo} {im : Nat → Option xCo} {v : Int32} (hC : ClsAt G h x lo tp tn rs c im) (hK : CoreOk c) : xCall K mX11_late 6 0 0 [.ref x, .int v] h G (clQ G h x lo (lateC rs c v) tp tn rs c im) := by
  refine x_entry (by decide) (ls := [(0, .ref x), (1, .int v)]) rfl (Nat.le_of_ble_eq_true rfl) ?_
  obtain ⟨ruf, ima, ru, hM, hE⟩ := hC
  obtain ⟨m1, m2, m3, m4, m5, m6, m7, m8, m9⟩ := id hM
  obtain ⟨rows, nx, fi, fs, al, s1, s2, s3, s4, s5⟩ := id m7
  have hN : DayAt G (x + 26) c.1.1 c.1.2 (x + 16) ru := s4
  have hB := hN.2.1.2.2.2.2.2.2.2.2
  have hrc := hE.2.2.1
  have htn := m2.2.2
  obtain ⟨hO, hX, hK3, hK4, hK5, hK6, hK7, hK8, hK9, hK10⟩ := id hK
  obtain ⟨o2, o3, o4, o5, o6, o7, o8, o9⟩ := id hO
  obtain ⟨hk, rk, rt, ch, mo, tr, B, q1, q2, q3⟩ := id m8
  have hT : TrW G G x hk rk rt ch mo := ⟨q1, q2, m6, FrS.rf⟩
  obtain ⟨mm, hmm, hm0⟩ := hX.2.1
  have hmt := thN_nI (t := mm) (by omega)
  refine x_aload_n dX11_late_0 0 rfl ?_
  refine x_get dX11_late_1 fX11_55 (m1) rfl ?_
  refine x_get dX11_late_4 fX11_89 (hN.1) rfl ?_
  refine x_iload_n dX11_late_7 1 rfl ?_
  refine x_cV (N := mX3_isSort) (d' := 0) (mc := 0) (ms := 0) (cb := 0) (sb := 0) (As := [.int v]) (st := []) dX11_late_8 mX3_isSort_v lX11_145 rfl rfl (hN.2.1.1) rfl (by decide) (Nat.le_of_ble_eq_true rfl) (Hall_isSort hN.2.1) rfl (st1 := [.int (bI (inR v (c.1.1 0 2)))]) rfl ?_
  refine x_ifB_eq (tgt := 25) dX11_late_11 (by decide) (fun c11 => ?_) (fun c11 => ?_)
  · refine x_iconst dX11_late_25 ki_m1 ?_
    exact x_iret dX11_late_26 rfl (xEx_i G (Cls_same hM hE) (by unfold lateC; rw [if_neg (by rw [c11]; decide)]) rfl rfl)
  · have hc := c11
    obtain ⟨t, ht, hvt⟩ := inR_of c11
    subst hvt
    have ht1 := thN_nI (t := t) (by omega)
    refine x_aload_n dX11_late_14 0 rfl ?_
    refine x_get dX11_late_15 fX11_61 (m1) rfl ?_
    refine x_iload_n dX11_late_18 1 rfl ?_
    refine x_pc (pc' := 19) rfl ?_
    refine x_cVe (N := mX0_lastCome) (d' := 5) (mc := 0) (ms := 0) (cb := 0) (sb := 0) (As := [.int (nI t)]) (st := []) dX11_late_19 mX0_lastCome_v lX11_237 rfl rfl (q1) rfl (by decide) (Nat.le_of_ble_eq_true rfl) (Asks_lastCome hN hE.rule hO hX.1 ht hm0 (by omega) (fun q => hX.2.2.2.2.1 _ (Nat.le_refl _) q) hT) rfl (sf := fun e1 => [.int (lateS c.1.1 (rvC rs c) c.1.2 t mm)]) (fun _ => rfl) (fun e1 hz1 => ?_)
    obtain ⟨⟨h1, r1, u1⟩, G1⟩ := e1
    have hT1 : TrW G G1 x h1 r1 u1 ch mo := hz1
    refine x_goto (tgt := 26) dX11_late_22 (by decide) ?_
    exact x_iret dX11_late_26 rfl (xEx_i G1 (Cls_ask hM hE hT1) (by unfold lateC; rw [if_pos hc, ht1, hm0, hmt]) rfl rfl)
theorem Cls_idle {K : xG} {h x lo : Nat} {G : xHp} {tp : Nat → Nat} {tn : Nat} {rs : List (List Nat)} {c : xCo} {im : Nat → Option xCo} {v : Int32} (hC : ClsAt G h x lo tp tn rs c im) (hK : CoreOk c) : xCall K mX11_idle 6 0 0 [.ref x, .int v] h G (clQ G h x lo (idleC rs c v) tp tn rs c im) := by
  refine x_entry (by decide) (ls := [(0, .ref x), (1, .int v)]) rfl (Nat.le_of_ble_eq_true rfl) ?_
  obtain ⟨ruf, ima, ru, hM, hE⟩ := hC
  obtain ⟨m1, m2, m3, m4, m5, m6, m7, m8, m9⟩ := id hM
  obtain ⟨rows, nx, fi, fs, al, s1, s2, s3, s4, s5⟩ := id m7
  have hN : DayAt G (x + 26) c.1.1 c.1.2 (x + 16) ru := s4
  have hB := hN.2.1.2.2.2.2.2.2.2.2
  have hrc := hE.2.2.1
  have htn := m2.2.2
  obtain ⟨hO, hX, hK3, hK4, hK5, hK6, hK7, hK8, hK9, hK10⟩ := id hK
  obtain ⟨o2, o3, o4, o5, o6, o7, o8, o9⟩ := id hO
  obtain ⟨hk, rk, rt, ch, mo, tr, B, q1, q2, q3⟩ := id m8
  have hT : TrW G G x hk rk rt ch mo := ⟨q1, q2, m6, FrS.rf⟩
  refine x_aload_n dX11_idle_0 0 rfl ?_
  refine x_get dX11_idle_1 fX11_55 (m1) rfl ?_
  refine x_get dX11_idle_4 fX11_89 (hN.1) rfl ?_
  refine x_iload_n dX11_idle_7 1 rfl ?_
  refine x_cV (N := mX3_isMender) (d' := 0) (mc := 0) (ms := 0) (cb := 0) (sb := 0) (As := [.int v]) (st := []) dX11_idle_8 mX3_isMender_v lX11_138 rfl rfl (hN.2.1.1) rfl (by decide) (Nat.le_of_ble_eq_true rfl) (Hall_isMender hN.2.1) rfl (st1 := [.int (bI (inR v (c.1.1 0 3)))]) rfl ?_
  refine x_ifB_eq (tgt := 25) dX11_idle_11 (by decide) (fun c11 => ?_) (fun c11 => ?_)
  · refine x_iconst dX11_idle_25 ki_m1 ?_
    exact x_iret dX11_idle_26 rfl (xEx_i G (Cls_same hM hE) (by unfold idleC; rw [if_neg (by rw [c11]; decide)]) rfl rfl)
  · have hc := c11
    obtain ⟨q, hq, hvq⟩ := inR_of c11
    subst hvq
    have hq1 := thN_nI (t := q) (by omega)
    refine x_aload_n dX11_idle_14 0 rfl ?_
    refine x_get dX11_idle_15 fX11_61 (m1) rfl ?_
    refine x_iload_n dX11_idle_18 1 rfl ?_
    refine x_pc (pc' := 19) rfl ?_
    refine x_cVe (N := mX0_idleAtEnd) (d' := 4) (mc := 0) (ms := 0) (cb := 0) (sb := 0) (As := [.int (nI q)]) (st := []) dX11_idle_19 mX0_idleAtEnd_v lX11_240 rfl rfl (q1) rfl (by decide) (Nat.le_of_ble_eq_true rfl) (Asks_idleAtEnd hN hT hE.rule hO hX.1 (by omega)) rfl (sf := fun G1 => [.int (idleR c.1.1 (rvC rs c) 400 c.1.2 (17 + q))]) (fun _ => rfl) (fun G1 hT1 => ?_)
    refine x_goto (tgt := 26) dX11_idle_22 (by decide) ?_
    exact x_iret dX11_idle_26 rfl (xEx_i G1 (Cls_ask hM hE hT1) (by unfold idleC; rw [if_pos hc, hq1]) rfl rfl)
theorem Cls_match {K : xG} {h x lo : Nat} {G : xHp} {tp : Nat → Nat} {tn : Nat} {rs : List (List Nat)} {c : xCo} {im : Nat → Option xCo} {w : Int32} (hC : ClsAt G h x lo tp tn rs c im) (hK : CoreOk c) : xCall K mX11_match 9 0 0 [.ref x, .int w] h G (clQ G h x lo (matchC c w) tp tn rs c im) := by
  refine x_entry (by decide) (ls := [(0, .ref x), (1, .int w)]) rfl (Nat.le_of_ble_eq_true rfl) ?_
  obtain ⟨ruf, ima, ru, hM, hE⟩ := hC
  obtain ⟨m1, m2, m3, m4, m5, m6, m7, m8, m9⟩ := id hM
  obtain ⟨rows, nx, fi, fs, al, s1, s2, s3, s4, s5⟩ := id m7
  have hN : DayAt G (x + 26) c.1.1 c.1.2 (x + 16) ru := s4
  have hB := hN.2.1.2.2.2.2.2.2.2.2
  have hrc := hE.2.2.1
  have htn := m2.2.2
  obtain ⟨hO, hX, hK3, hK4, hK5, hK6, hK7, hK8, hK9, hK10⟩ := id hK
  obtain ⟨o2, o3, o4, o5, o6, o7, o8, o9⟩ := id hO
  obtain ⟨hk, rk, rt, ch, mo, tr, B, q1, q2, q3⟩ := id m8
  have hT : TrW G G x hk rk rt ch mo := ⟨q1, q2, m6, FrS.rf⟩
  refine x_aload_n dX11_match_0 0 rfl ?_
  refine x_get dX11_match_1 fX11_47 (m1) rfl ?_
  refine x_get dX11_match_4 fX11_151 (s1) rfl ?_
  refine x_ifB_eq (tgt := 19) dX11_match_7 (by decide) (fun c7 => ?_) (fun c7 => ?_)
  · refine x_bipush dX11_match_19 kb_m3 ?_
    exact x_iret dX11_match_21 rfl (xEx_i G (Cls_same hM hE) (by unfold matchC; rw [if_neg (fun e => absurd (c7.symm.trans e.1) (by decide))]) rfl rfl)
  · refine x_iload_n dX11_match_10 1 rfl ?_
    refine x_if_lt (tgt := 19) dX11_match_11 (by decide) (fun c11 => ?_) (fun c11 => ?_)
    · refine x_bipush dX11_match_19 kb_m3 ?_
      exact x_iret dX11_match_21 rfl (xEx_i G (Cls_same hM hE) (by unfold matchC; rw [if_neg (fun e => absurd ((inR_neg c11).symm.trans e.2) (by decide))]) rfl rfl)
    · refine x_iload_n dX11_match_14 1 rfl ?_
      refine x_iconst dX11_match_15 ki_5 ?_
      refine x_icmp_le (x := w) (y := nI 5) (tgt := 22) dX11_match_16 (by decide) (fun c16 => ?_) (fun c16 => ?_)
      · have hin : inR w 6 = true := inR_le (m := 5) (by decide) c11 c16
        have hin2 := hin
        obtain ⟨k, hk, hvk⟩ := inR_of hin
        subst hvk
        have hk1 := thN_nI (t := k) (by omega)
        refine x_pc (pc' := 22) rfl ?_
        refine x_iload_n dX11_match_22 1 rfl ?_
        refine x_iconst dX11_match_23 ki_2 ?_
        refine x_isub dX11_match_24 ?_
        refine x_istore_n (ls' := [(2, .int ((nI k) - (nI 2))), (0, .ref x), (1, .int (nI k))]) dX11_match_25 (by decide) rfl ?_
        rcases (show k = 0 ∨ k = 1 ∨ 2 ≤ k by omega) with hk0 | hk0 | hk0
        · subst hk0
          refine x_leq (ls' := [(2, .int (-2)), (0, .ref x), (1, .int (nI 0))]) (by rw [show nI 0 - nI 2 = -2 by decide]) ?_
          refine x_iload_n dX11_match_26 0 rfl ?_
          refine x_if_lt (tgt := 58) dX11_match_27 (by decide) (fun c27 => ?_) (fun c27 => ?_)
          · refine x_aload_n dX11_match_58 1 rfl ?_
            refine x_get dX11_match_59 fX11_61 (m1) rfl ?_
            refine x_cVe (N := mX0_findMatch) (d' := 8) (mc := 0) (ms := 0) (cb := 0) (sb := 0) (As := []) (st := []) dX11_match_62 mX0_findMatch_v lX11_210 rfl rfl (q1) rfl (by decide) (Nat.le_of_ble_eq_true rfl) (Asks_findMatch hN hO q3 hT) rfl (sf := fun e1 => [.ref (x + 47)]) (fun _ => rfl) (fun e1 hz1 => ?_)
            obtain ⟨r1, G1⟩ := e1
            obtain ⟨-, y1, y2, y3, y4, y5⟩ := hz1
            simp only at y1 y2 y3 y4 y5
            have hbr := mt_any c.1.1 c.1.2 tr B.2.1 B.2.2
            have hfin : ClsAt G1 h x lo tp tn rs c im ∧ ∀ a, x + 51 ≤ a → a < lo → G1 a = G a := ⟨⟨ruf, ima, ru, hM.off y3 ⟨_, _, _, _, _, _, _, y1, y2, y4⟩ (fun a ha => y5 a ha), hE.fr (fun a ha => y5 a (by have := hE.1; omega)) hE.2.2.2.2.1⟩, fun a p q => y5 a (by omega)⟩
            refine x_astore_n (ls' := [(3, .ref (x + 47)), (2, .int (-2)), (0, .ref x), (1, .int (nI 0))]) dX11_match_65 (by decide) rfl ?_
            refine x_pc (pc' := 66) rfl ?_
            refine x_iload_n dX11_match_66 1 rfl ?_
            refine x_if_lt (tgt := 77) dX11_match_67 (by decide) (fun c67 => ?_) (fun c67 => ?_)
            · refine x_iload_n dX11_match_77 3 rfl ?_
              refine x_ifN_ne (tgt := 88) dX11_match_78 (by decide) (by have := hB 0 0; have := hB 0 2; have := hB 0 3; have := hB 0 4; omega) (fun c78 => ?_) (fun c78 => ?_)
              · exact absurd c78 (by decide)
              · refine x_aload_n dX11_match_81 0 rfl ?_
                refine x_get dX11_match_82 fX11_219 (y4.1) rfl ?_
                refine x_goto (tgt := 92) dX11_match_85 (by decide) ?_
                exact x_iret dX11_match_92 rfl (xEx_i G1 hfin (by unfold matchC; rw [if_pos ⟨c7, hin2⟩, if_pos rfl, hbr.1]) rfl rfl)
            · exact absurd c67 (by decide)
          · exact absurd c27 (by decide)
        · subst hk0
          refine x_leq (ls' := [(2, .int (-1)), (0, .ref x), (1, .int (nI 1))]) (by rw [show nI 1 - nI 2 = -1 by decide]) ?_
          refine x_iload_n dX11_match_26 0 rfl ?_
          refine x_if_lt (tgt := 58) dX11_match_27 (by decide) (fun c27 => ?_) (fun c27 => ?_)
          · refine x_aload_n dX11_match_58 1 rfl ?_
            refine x_get dX11_match_59 fX11_61 (m1) rfl ?_
            refine x_cVe (N := mX0_findMatch) (d' := 8) (mc := 0) (ms := 0) (cb := 0) (sb := 0) (As := []) (st := []) dX11_match_62 mX0_findMatch_v lX11_210 rfl rfl (q1) rfl (by decide) (Nat.le_of_ble_eq_true rfl) (Asks_findMatch hN hO q3 hT) rfl (sf := fun e1 => [.ref (x + 47)]) (fun _ => rfl) (fun e1 hz1 => ?_)
            obtain ⟨r1, G1⟩ := e1
            obtain ⟨-, y1, y2, y3, y4, y5⟩ := hz1
            simp only at y1 y2 y3 y4 y5
            have hbr := mt_any c.1.1 c.1.2 tr B.2.1 B.2.2
            have hfin : ClsAt G1 h x lo tp tn rs c im ∧ ∀ a, x + 51 ≤ a → a < lo → G1 a = G a := ⟨⟨ruf, ima, ru, hM.off y3 ⟨_, _, _, _, _, _, _, y1, y2, y4⟩ (fun a ha => y5 a ha), hE.fr (fun a ha => y5 a (by have := hE.1; omega)) hE.2.2.2.2.1⟩, fun a p q => y5 a (by omega)⟩
            refine x_astore_n (ls' := [(3, .ref (x + 47)), (2, .int (-1)), (0, .ref x), (1, .int (nI 1))]) dX11_match_65 (by decide) rfl ?_
            refine x_pc (pc' := 66) rfl ?_
            refine x_iload_n dX11_match_66 1 rfl ?_
            refine x_if_lt (tgt := 77) dX11_match_67 (by decide) (fun c67 => ?_) (fun c67 => ?_)
            · refine x_iload_n dX11_match_77 3 rfl ?_
              refine x_ifN_ne (tgt := 88) dX11_match_78 (by decide) (by have := hB 0 0; have := hB 0 2; have := hB 0 3; have := hB 0 4; omega) (fun c78 => ?_) (fun c78 => ?_)
              · refine x_aload_n dX11_match_88 0 rfl ?_
                refine x_get dX11_match_89 fX11_222 (y4.1) rfl ?_
                exact x_iret dX11_match_92 rfl (xEx_i G1 hfin (by unfold matchC; rw [if_pos ⟨c7, hin2⟩, if_neg (by decide), if_pos rfl, hbr.2.1]) rfl rfl)
              · exact absurd c78 (by decide)
            · exact absurd c67 (by decide)
          · exact absurd c27 (by decide)
        · obtain ⟨q, hq⟩ : ∃ q, k = q + 2 := ⟨k - 2, by omega⟩
          subst hq
          refine x_leq (ls' := [(2, .int (nI q)), (0, .ref x), (1, .int (nI (q + 2)))]) (by rw [pk_sub (by omega)]; rfl) ?_
          refine x_iload_n dX11_match_26 0 rfl ?_
          refine x_ifN_lt (tgt := 58) dX11_match_27 (by decide) (by have := hB 0 0; have := hB 0 2; have := hB 0 3; have := hB 0 4; omega) (fun c27 => ?_) (fun c27 => ?_)
          · exact absurd c27 id
          · refine x_aload_n dX11_match_30 1 rfl ?_
            refine x_get dX11_match_31 fX11_55 (m1) rfl ?_
            refine x_get dX11_match_34 fX11_89 (hN.1) rfl ?_
            refine x_iload_n dX11_match_37 0 rfl ?_
            refine x_pc (pc' := 38) rfl ?_
            refine x_cV (N := mX3_isMender) (d' := 0) (mc := 0) (ms := 0) (cb := 0) (sb := 0) (As := [.int (nI q)]) (st := []) dX11_match_38 mX3_isMender_v lX11_138 rfl rfl (hN.2.1.1) rfl (by decide) (Nat.le_of_ble_eq_true rfl) (Hall_isMender hN.2.1) rfl (st1 := [.int (bI (inR (nI q) (c.1.1 0 3)))]) rfl ?_
            refine x_ifB_eq (tgt := 55) dX11_match_41 (by decide) (fun c41 => ?_) (fun c41 => ?_)
            · rw [inR_nI (by omega)] at c41
              refine x_bipush dX11_match_55 kb_m2 ?_
              exact x_iret dX11_match_57 rfl (xEx_i G (Cls_same hM hE) (by unfold matchC; rw [if_pos ⟨c7, hin2⟩, if_neg (fun e => absurd ((nI_eq (b := 0) (by omega) (by decide)).mp e) (by omega)), if_neg (fun e => absurd ((nI_eq (b := 1) (by omega) (by decide)).mp e) (by omega)), hk1, show q + 2 - 2 = q by omega, if_neg (fun e => of_decide_eq_false c41 e.1)]) rfl rfl)
            · rw [inR_nI (by omega)] at c41
              refine x_aload_n dX11_match_44 1 rfl ?_
              refine x_get dX11_match_45 fX11_55 (m1) rfl ?_
              refine x_iload_n dX11_match_48 0 rfl ?_
              refine x_cV (N := mX2_isFree) (d' := 0) (mc := 0) (ms := 0) (cb := 0) (sb := 0) (As := [.int (nI q)]) (st := []) dX11_match_49 mX2_isFree_v lX11_165 rfl rfl (hN.1) rfl (by decide) (Nat.le_of_ble_eq_true rfl) (Day_isFree hN (by omega)) rfl (st1 := [.int (bI (decide (c.1.2 (5 + q) = -1)))]) rfl ?_
              refine x_ifB_ne (tgt := 58) dX11_match_52 (by decide) (fun c52 => ?_) (fun c52 => ?_)
              · refine x_aload_n dX11_match_58 1 rfl ?_
                refine x_get dX11_match_59 fX11_61 (m1) rfl ?_
                refine x_cVe (N := mX0_findMatch) (d' := 8) (mc := 0) (ms := 0) (cb := 0) (sb := 0) (As := []) (st := []) dX11_match_62 mX0_findMatch_v lX11_210 rfl rfl (q1) rfl (by decide) (Nat.le_of_ble_eq_true rfl) (Asks_findMatch hN hO q3 hT) rfl (sf := fun e1 => [.ref (x + 47)]) (fun _ => rfl) (fun e1 hz1 => ?_)
                obtain ⟨r1, G1⟩ := e1
                obtain ⟨-, y1, y2, y3, y4, y5⟩ := hz1
                simp only at y1 y2 y3 y4 y5
                have hbr := mt_any c.1.1 c.1.2 tr B.2.1 B.2.2
                have hfin : ClsAt G1 h x lo tp tn rs c im ∧ ∀ a, x + 51 ≤ a → a < lo → G1 a = G a := ⟨⟨ruf, ima, ru, hM.off y3 ⟨_, _, _, _, _, _, _, y1, y2, y4⟩ (fun a ha => y5 a ha), hE.fr (fun a ha => y5 a (by have := hE.1; omega)) hE.2.2.2.2.1⟩, fun a p q => y5 a (by omega)⟩
                refine x_pc (pc' := 65) rfl ?_
                refine x_astore_n (ls' := [(3, .ref (x + 47)), (2, .int (nI q)), (0, .ref x), (1, .int (nI (q + 2)))]) dX11_match_65 (by decide) rfl ?_
                refine x_iload_n dX11_match_66 1 rfl ?_
                refine x_ifN_lt (tgt := 77) dX11_match_67 (by decide) (by have := hB 0 0; have := hB 0 2; have := hB 0 3; have := hB 0 4; omega) (fun c67 => ?_) (fun c67 => ?_)
                · exact absurd c67 id
                · refine x_aload_n dX11_match_70 0 rfl ?_
                  refine x_get dX11_match_71 fX11_214 (y4.1) rfl ?_
                  refine x_iload_n dX11_match_74 1 rfl ?_
                  refine x_ialdN dX11_match_75 (y4.2.2) (by omega) (by decide) ?_
                  exact x_iret dX11_match_76 rfl (xEx_i G1 hfin (by unfold matchC; rw [if_pos ⟨c7, hin2⟩, if_neg (fun e => absurd ((nI_eq (b := 0) (by omega) (by decide)).mp e) (by omega)), if_neg (fun e => absurd ((nI_eq (b := 1) (by omega) (by decide)).mp e) (by omega)), hk1, show q + 2 - 2 = q by omega, if_pos ⟨of_decide_eq_true c41, of_decide_eq_true c52⟩, hbr.2.2 q (of_decide_eq_true c41)]) rfl rfl)
              · refine x_bipush dX11_match_55 kb_m2 ?_
                exact x_iret dX11_match_57 rfl (xEx_i G (Cls_same hM hE) (by unfold matchC; rw [if_pos ⟨c7, hin2⟩, if_neg (fun e => absurd ((nI_eq (b := 0) (by omega) (by decide)).mp e) (by omega)), if_neg (fun e => absurd ((nI_eq (b := 1) (by omega) (by decide)).mp e) (by omega)), hk1, show q + 2 - 2 = q by omega, if_neg (fun e => of_decide_eq_false c52 e.2)]) rfl rfl)
      · refine x_pc (pc' := 19) rfl ?_
        refine x_bipush dX11_match_19 kb_m3 ?_
        exact x_iret dX11_match_21 rfl (xEx_i G (Cls_same hM hE) (by unfold matchC; rw [if_neg (fun e => absurd ((inR_gt (m := 5) (by decide) c16).symm.trans e.2) (by decide))]) rfl rfl)
