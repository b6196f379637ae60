theorem Cls_minute {K : xG} {h x lo : Nat} {G : xHp} {tp : Nat → Nat} {tn : Nat} {rs : List (List Nat)} {c : xCo} {im : Nat → Option xCo} (hC : ClsAt G h x lo tp tn rs c im) (hK : CoreOk c) : xCall K mX11_minute 4 0 0 [.ref x] h G (clQ G h x lo (minuteS rs c).1 tp tn rs (minuteS rs c).2 im) := by
  refine x_entry (by decide) (ls := [(0, .ref x)]) rfl (Nat.le_of_ble_eq_true rfl) ?_
  obtain ⟨ruf, ima, ru, hM, hE⟩ := hC
  obtain ⟨m1, m2, m3, m4, m5, m6, m7, m8, m9⟩ := id hM
  obtain ⟨rows, nx, fi, fs, al, s1, s2, s3, s4, s5⟩ := id m7
  have hN : DayAt G (x + 26) c.1.1 c.1.2 (x + 16) ru := s4
  have hB := hN.2.1.2.2.2.2.2.2.2.2
  have hrc := hE.2.2.1
  have htn := m2.2.2
  obtain ⟨hO, hX, hK3, hK4, hK5, hK6, hK7, hK8, hK9, hK10⟩ := id hK
  obtain ⟨o2, o3, o4, o5, o6, o7, o8, o9⟩ := id hO
  refine x_aload_n dX11_minute_0 0 rfl ?_
  refine x_get dX11_minute_1 fX11_47 (m1) rfl ?_
  refine x_get dX11_minute_4 fX11_151 (s1) rfl ?_
  refine x_ifB_eq (tgt := 23) dX11_minute_7 (by decide) (fun c7 => ?_) (fun c7 => ?_)
  · refine x_iconst dX11_minute_23 ki_m1 ?_
    exact x_iret dX11_minute_24 rfl (xEx_i G (by rw [show minuteS rs c = _ from if_neg (fun e => absurd (c7.symm.trans e.1) (by decide))]; exact Cls_same hM hE) (by rw [show minuteS rs c = _ from if_neg (fun e => absurd (c7.symm.trans e.1) (by decide))]) rfl rfl)
  · refine x_aload_n dX11_minute_10 0 rfl ?_
    refine x_get dX11_minute_11 fX11_55 (m1) rfl ?_
    refine x_cV (N := mX2_minuteNow) (d' := 0) (mc := 0) (ms := 0) (cb := 0) (sb := 0) (As := []) (st := []) dX11_minute_14 mX2_minuteNow_v lX11_155 rfl rfl (hN.1) rfl (by decide) (Nat.le_of_ble_eq_true rfl) (Day_minuteNow hN) rfl (st1 := [.int (c.1.2 0)]) rfl ?_
    refine x_sipush dX11_minute_17 ks_999 ?_
    refine x_icmp_lt (x := c.1.2 0) (y := nI 999) (tgt := 25) dX11_minute_20 (by decide) (fun c20 => ?_) (fun c20 => ?_)
    · refine x_pc (pc' := 25) rfl ?_
      refine x_aload_n dX11_minute_25 0 rfl ?_
      refine x_get dX11_minute_26 fX11_47 (m1) rfl ?_
      refine x_cVe (N := mX10_keepForUndo) (d' := 1) (mc := 0) (ms := 0) (cb := 0) (sb := 0) (As := []) (st := []) dX11_minute_29 mX10_keepForUndo_v lX11_159 rfl rfl (s1) rfl (by decide) (Nat.le_of_ble_eq_true rfl) (St_keep m7) rfl (sf := fun G1 => []) (fun _ => rfl) (fun G1 hq1 => ?_)
      obtain ⟨k1, k2⟩ := hq1
      have n1 : G1 x = some (clsO x tn rs.length) := (k2 _ (by omega)).trans m1
      have hN1 : DayAt G1 (x + 26) c.1.1 c.1.2 (x + 16) ru := k1.day
      have hJ1 : JuAt G1 (x + 16) := m6.fr (fun a p q => k2 a (by omega))
      refine x_aload_n dX11_minute_32 0 rfl ?_
      refine x_get dX11_minute_33 fX11_55 (n1) rfl ?_
      obtain ⟨wd, sk, hJ2⟩ := hJ1
      refine x_cVe (N := mX2_goOn) (d' := 3) (mc := 0) (ms := 0) (cb := 0) (sb := 0) (As := []) (st := []) dX11_minute_36 mX2_goOn_v lX11_162 rfl rfl (hN1.1) rfl (by decide) (Nat.le_of_ble_eq_true rfl) (Day_goOn hN1 hJ2 (RuleIn.rv (hE.ri (fun a p => k2 a (by omega))) (by omega) (by omega)) hO (by omega) hX.1) rfl (sf := fun e2 => [.int ((goMin c.1.1 (rvI rs c.2.2.1.2.1) c.1.2).2)]) (fun _ => rfl) (fun e2 _ => ?_)
      exact x_iret dX11_minute_39 rfl (xEx_i _ (by rw [show minuteS rs c = _ from if_pos ⟨c7, c20⟩]; exact Cls_st hM hE (((k1.row _).off (by omega)).off (by omega)) ⟨e2.1, e2.2, hJ2.go (by omega)⟩ (fun a ha => by unfold dayG; rw [xup_ne (by omega), xup_ne (by omega), xup_ne (by omega)]; exact k2 a (by omega)) hE.2.2.2.2.1) (by rw [show minuteS rs c = _ from if_pos ⟨c7, c20⟩]) rfl rfl)
    · refine x_pc (pc' := 23) rfl ?_
      refine x_iconst dX11_minute_23 ki_m1 ?_
      exact x_iret dX11_minute_24 rfl (xEx_i G (by rw [show minuteS rs c = _ from if_neg (fun e => c20 e.2)]; exact Cls_same hM hE) (by rw [show minuteS rs c = _ from if_neg (fun e => c20 e.2)]) rfl rfl)
theorem Cls_give {K : xG} {h x lo : Nat} {G : xHp} {tp : Nat → Nat} {tn : Nat} {rs : List (List Nat)} {c : xCo} {im : Nat → Option xCo} {v w : Int32} (hC : ClsAt G h x lo tp tn rs c im) (hK : CoreOk c) : xCall K mX11_give 2 0 0 [.ref x, .int v, .int w] h G (clQ G h x lo (giveS c v w).1 tp tn rs (giveS c v w).2 im) := by
  refine x_entry (by decide) (ls := [(0, .ref x), (1, .int v), (2, .int w)]) rfl (Nat.le_of_ble_eq_true rfl) ?_
  obtain ⟨ruf, ima, ru, hM, hE⟩ := hC
  obtain ⟨m1, m2, m3, m4, m5, m6, m7, m8, m9⟩ := id hM
  obtain ⟨rows, nx, fi, fs, al, s1, s2, s3, s4, s5⟩ := id m7
  have hN : DayAt G (x + 26) c.1.1 c.1.2 (x + 16) ru := s4
  have hB := hN.2.1.2.2.2.2.2.2.2.2
  have hrc := hE.2.2.1
  have htn := m2.2.2
  obtain ⟨hO, hX, hK3, hK4, hK5, hK6, hK7, hK8, hK9, hK10⟩ := id hK
  obtain ⟨o2, o3, o4, o5, o6, o7, o8, o9⟩ := id hO
  refine x_aload_n dX11_give_0 0 rfl ?_
  refine x_get dX11_give_1 fX11_55 (m1) rfl ?_
  refine x_get dX11_give_4 fX11_89 (hN.1) rfl ?_
  refine x_iload_n dX11_give_7 1 rfl ?_
  refine x_cV (N := mX3_isMender) (d' := 0) (mc := 0) (ms := 0) (cb := 0) (sb := 0) (As := [.int v]) (st := []) dX11_give_8 mX3_isMender_v lX11_138 rfl rfl (hN.2.1.1) rfl (by decide) (Nat.le_of_ble_eq_true rfl) (Hall_isMender hN.2.1) rfl (st1 := [.int (bI (inR v (c.1.1 0 3)))]) rfl ?_
  refine x_ifB_eq (tgt := 51) dX11_give_11 (by decide) (fun c11 => ?_) (fun c11 => ?_)
  · refine x_iconst dX11_give_51 ki_m1 ?_
    exact x_iret dX11_give_52 rfl (xEx_i G (by rw [show giveS c v w = _ from if_neg (fun e => absurd (c11.symm.trans e.1) (by decide))]; exact Cls_same hM hE) (by rw [show giveS c v w = _ from if_neg (fun e => absurd (c11.symm.trans e.1) (by decide))]) rfl rfl)
  · have hc11 := c11
    obtain ⟨q, hq, hvq⟩ := inR_of c11
    subst hvq
    have hq1 := thN_nI (t := q) (by omega)
    refine x_aload_n dX11_give_14 0 rfl ?_
    refine x_get dX11_give_15 fX11_55 (m1) rfl ?_
    refine x_get dX11_give_18 fX11_89 (hN.1) rfl ?_
    refine x_pc (pc' := 21) rfl ?_
    refine x_iload_n dX11_give_21 2 rfl ?_
    refine x_cV (N := mX3_isThing) (d' := 0) (mc := 0) (ms := 0) (cb := 0) (sb := 0) (As := [.int w]) (st := []) dX11_give_22 mX3_isThing_v lX11_116 rfl rfl (hN.2.1.1) rfl (by decide) (Nat.le_of_ble_eq_true rfl) (Hall_isThing hN.2.1) rfl (st1 := [.int (bI (inR w (c.1.1 0 4)))]) rfl ?_
    refine x_ifB_eq (tgt := 51) dX11_give_25 (by decide) (fun c25 => ?_) (fun c25 => ?_)
    · refine x_iconst dX11_give_51 ki_m1 ?_
      exact x_iret dX11_give_52 rfl (xEx_i G (by rw [show giveS c (nI q) w = _ from if_neg (fun e => absurd (c25.symm.trans e.2.1) (by decide))]; exact Cls_same hM hE) (by rw [show giveS c (nI q) w = _ from if_neg (fun e => absurd (c25.symm.trans e.2.1) (by decide))]) rfl rfl)
    · have hc25 := c25
      obtain ⟨t, ht, hvt⟩ := inR_of c25
      subst hvt
      have ht1 := thN_nI (t := t) (by omega)
      have o5t := o5 t (by omega)
      refine x_aload_n dX11_give_28 0 rfl ?_
      refine x_get dX11_give_29 fX11_55 (m1) rfl ?_
      refine x_iload_n dX11_give_32 1 rfl ?_
      refine x_cV (N := mX2_isFree) (d' := 0) (mc := 0) (ms := 0) (cb := 0) (sb := 0) (As := [.int (nI q)]) (st := []) dX11_give_33 mX2_isFree_v lX11_165 rfl rfl (hN.1) rfl (by decide) (Nat.le_of_ble_eq_true rfl) (Day_isFree hN (by omega)) rfl (st1 := [.int (bI (decide (c.1.2 (5 + q) = -1)))]) rfl ?_
      refine x_ifB_eq (tgt := 51) dX11_give_36 (by decide) (fun c36 => ?_) (fun c36 => ?_)
      · refine x_iconst dX11_give_51 ki_m1 ?_
        exact x_iret dX11_give_52 rfl (xEx_i G (by rw [show giveS c (nI q) (nI t) = _ from if_neg (fun e => of_decide_eq_false c36 (by rw [← hq1]; exact e.2.2.1))]; exact Cls_same hM hE) (by rw [show giveS c (nI q) (nI t) = _ from if_neg (fun e => of_decide_eq_false c36 (by rw [← hq1]; exact e.2.2.1))]) rfl rfl)
      · refine x_aload_n dX11_give_39 0 rfl ?_
        refine x_get dX11_give_40 fX11_55 (m1) rfl ?_
        refine x_pc (pc' := 43) rfl ?_
        refine x_iload_n dX11_give_43 1 rfl ?_
        refine x_iload_n dX11_give_44 2 rfl ?_
        refine x_cV (N := mX2_canTake) (d' := 1) (mc := 0) (ms := 0) (cb := 0) (sb := 0) (As := [.int (nI q), .int (nI t)]) (st := []) dX11_give_45 mX2_canTake_v lX11_168 rfl rfl (hN.1) rfl (by decide) (Nat.le_of_ble_eq_true rfl) (Day_canTake hN (by omega) (by omega) (by omega)) rfl (st1 := [.int (bI (canT c.1.1 c.1.2 q t))]) rfl ?_
        refine x_ifB_ne (tgt := 53) dX11_give_48 (by decide) (fun c48 => ?_) (fun c48 => ?_)
        · refine x_aload_n dX11_give_53 0 rfl ?_
          refine x_get dX11_give_54 fX11_47 (m1) rfl ?_
          refine x_cVe (N := mX10_keepForUndo) (d' := 1) (mc := 0) (ms := 0) (cb := 0) (sb := 0) (As := []) (st := []) dX11_give_57 mX10_keepForUndo_v lX11_159 rfl rfl (s1) rfl (by decide) (Nat.le_of_ble_eq_true rfl) (St_keep m7) rfl (sf := fun G1 => []) (fun _ => rfl) (fun G1 hq1 => ?_)
          obtain ⟨k1, k2⟩ := hq1
          have n1 : G1 x = some (clsO x tn rs.length) := (k2 _ (by omega)).trans m1
          have hN1 : DayAt G1 (x + 26) c.1.1 c.1.2 (x + 16) ru := k1.day
          have hJ1 : JuAt G1 (x + 16) := m6.fr (fun a p q => k2 a (by omega))
          refine x_aload_n dX11_give_60 0 rfl ?_
          refine x_get dX11_give_61 fX11_55 (n1) rfl ?_
          refine x_iload_n dX11_give_64 1 rfl ?_
          refine x_pc (pc' := 65) rfl ?_
          refine x_iload_n dX11_give_65 2 rfl ?_
          refine x_cV (N := mX2_begin) (d' := 1) (mc := 0) (ms := 0) (cb := 0) (sb := 0) (As := [.int (nI q), .int (nI t)]) (st := []) dX11_give_66 mX2_begin_v lX11_172 rfl rfl (hN1.1) rfl (by decide) (Nat.le_of_ble_eq_true rfl) (Day_begin hN1 (by omega) (by omega) (by omega)) rfl (st1 := []) rfl ?_
          refine x_aload_n dX11_give_69 0 rfl ?_
          refine x_get dX11_give_70 fX11_55 (xup_of (by omega) (n1)) rfl ?_
          refine x_get dX11_give_73 fX11_135 (xup_of (by omega) (hN1.1)) rfl ?_
          refine x_bipush dX11_give_76 kb_9 ?_
          refine x_iload_n dX11_give_78 1 rfl ?_
          refine x_iaddN dX11_give_79 ?_
          refine x_ialdN dX11_give_80 (xup_eq) (by omega) (by decide) ?_
          exact x_iret dX11_give_81 rfl (xEx_i _ (by rw [show giveS c (nI q) (nI t) = _ from if_pos ⟨hc11, hc25, by rw [hq1]; exact of_decide_eq_true c36, by rw [hq1, ht1]; exact c48⟩, hq1, ht1]; exact Cls_act (r' := beginR c.1.1 c.1.2 q t) hM hE k1 k2 rfl rfl) (by rw [show giveS c (nI q) (nI t) = _ from if_pos ⟨hc11, hc25, by rw [hq1]; exact of_decide_eq_true c36, by rw [hq1, ht1]; exact c48⟩, hq1, ht1]; unfold beginR; rw [upd_at]) rfl rfl)
        · refine x_iconst dX11_give_51 ki_m1 ?_
          exact x_iret dX11_give_52 rfl (xEx_i G (by rw [show giveS c (nI q) (nI t) = _ from if_neg (fun e => by have e4 := e.2.2.2; rw [hq1, ht1, c48] at e4; exact absurd e4 (by decide))]; exact Cls_same hM hE) (by rw [show giveS c (nI q) (nI t) = _ from if_neg (fun e => by have e4 := e.2.2.2; rw [hq1, ht1, c48] at e4; exact absurd e4 (by decide))]) rfl rfl)
theorem Cls_putDown {K : xG} {h x lo : Nat} {G : xHp} {tp : Nat → Nat} {tn : Nat} {rs : List (List Nat)} {c : xCo} {im : Nat → Option xCo} {v : Int32} (hC : ClsAt G h x lo tp tn rs c im) (hK : CoreOk c) : xCall K mX11_putDown 2 0 0 [.ref x, .int v] h G (clQ G h x lo (putDownS c v).1 tp tn rs (putDownS c v).2 im) := by
  refine x_entry (by decide) (ls := [(0, .ref x), (1, .int v)]) rfl (Nat.le_of_ble_eq_true rfl) ?_
  obtain ⟨ruf, ima, ru, hM, hE⟩ := hC
  obtain ⟨m1, m2, m3, m4, m5, m6, m7, m8, m9⟩ := id hM
  obtain ⟨rows, nx, fi, fs, al, s1, s2, s3, s4, s5⟩ := id m7
  have hN : DayAt G (x + 26) c.1.1 c.1.2 (x + 16) ru := s4
  have hB := hN.2.1.2.2.2.2.2.2.2.2
  have hrc := hE.2.2.1
  have htn := m2.2.2
  obtain ⟨hO, hX, hK3, hK4, hK5, hK6, hK7, hK8, hK9, hK10⟩ := id hK
  obtain ⟨o2, o3, o4, o5, o6, o7, o8, o9⟩ := id hO
  refine x_aload_n dX11_putDown_0 0 rfl ?_
  refine x_get dX11_putDown_1 fX11_55 (m1) rfl ?_
  refine x_get dX11_putDown_4 fX11_89 (hN.1) rfl ?_
  refine x_iload_n dX11_putDown_7 1 rfl ?_
  refine x_cV (N := mX3_isMender) (d' := 0) (mc := 0) (ms := 0) (cb := 0) (sb := 0) (As := [.int v]) (st := []) dX11_putDown_8 mX3_isMender_v lX11_138 rfl rfl (hN.2.1.1) rfl (by decide) (Nat.le_of_ble_eq_true rfl) (Hall_isMender hN.2.1) rfl (st1 := [.int (bI (inR v (c.1.1 0 3)))]) rfl ?_
  refine x_ifB_eq (tgt := 25) dX11_putDown_11 (by decide) (fun c11 => ?_) (fun c11 => ?_)
  · refine x_iconst dX11_putDown_25 ki_m1 ?_
    exact x_iret dX11_putDown_26 rfl (xEx_i G (by rw [show putDownS c v = _ from if_neg (fun e => absurd (c11.symm.trans e.1) (by decide))]; exact Cls_same hM hE) (by rw [show putDownS c v = _ from if_neg (fun e => absurd (c11.symm.trans e.1) (by decide))]) rfl rfl)
  · have hc11 := c11
    obtain ⟨q, hq, hvq⟩ := inR_of c11
    subst hvq
    have hq1 := thN_nI (t := q) (by omega)
    refine x_aload_n dX11_putDown_14 0 rfl ?_
    refine x_get dX11_putDown_15 fX11_55 (m1) rfl ?_
    refine x_iload_n dX11_putDown_18 1 rfl ?_
    refine x_pc (pc' := 19) rfl ?_
    refine x_cV (N := mX2_isFree) (d' := 0) (mc := 0) (ms := 0) (cb := 0) (sb := 0) (As := [.int (nI q)]) (st := []) dX11_putDown_19 mX2_isFree_v lX11_165 rfl rfl (hN.1) rfl (by decide) (Nat.le_of_ble_eq_true rfl) (Day_isFree hN (by omega)) rfl (st1 := [.int (bI (decide (c.1.2 (5 + q) = -1)))]) rfl ?_
    refine x_ifB_eq (tgt := 27) dX11_putDown_22 (by decide) (fun c22 => ?_) (fun c22 => ?_)
    · have hnf := of_decide_eq_false c22
      obtain ⟨t, ht, hmt, -⟩ := (hX.1.2.1 q hq).resolve_left hnf
      have htt := thN_nI (t := t) (by omega)
      refine x_aload_n dX11_putDown_27 0 rfl ?_
      refine x_get dX11_putDown_28 fX11_47 (m1) rfl ?_
      refine x_cVe (N := mX10_keepForUndo) (d' := 1) (mc := 0) (ms := 0) (cb := 0) (sb := 0) (As := []) (st := []) dX11_putDown_31 mX10_keepForUndo_v lX11_159 rfl rfl (s1) rfl (by decide) (Nat.le_of_ble_eq_true rfl) (St_keep m7) rfl (sf := fun G1 => []) (fun _ => rfl) (fun G1 hq1 => ?_)
      obtain ⟨k1, k2⟩ := hq1
      have n1 : G1 x = some (clsO x tn rs.length) := (k2 _ (by omega)).trans m1
      have hN1 : DayAt G1 (x + 26) c.1.1 c.1.2 (x + 16) ru := k1.day
      have hJ1 : JuAt G1 (x + 16) := m6.fr (fun a p q => k2 a (by omega))
      refine x_aload_n dX11_putDown_34 0 rfl ?_
      refine x_get dX11_putDown_35 fX11_55 (n1) rfl ?_
      refine x_iload_n dX11_putDown_38 1 rfl ?_
      refine x_cV (N := mX2_layDown) (d' := 1) (mc := 0) (ms := 0) (cb := 0) (sb := 0) (As := [.int (nI q)]) (st := []) dX11_putDown_39 mX2_layDown_v lX11_176 rfl rfl (hN1.1) rfl (by decide) (Nat.le_of_ble_eq_true rfl) (Day_layDown hN1 (by omega) (by omega) ht hmt) rfl (st1 := [.int (nI t)]) rfl ?_
      exact x_iret dX11_putDown_42 rfl (xEx_i _ (by rw [show putDownS c (nI q) = _ from if_pos ⟨hc11, by rw [hq1]; exact hnf⟩, hq1, hmt, htt]; exact Cls_act (r' := layR c.1.2 q t) hM hE k1 k2 rfl rfl) (by rw [show putDownS c (nI q) = _ from if_pos ⟨hc11, by rw [hq1]; exact hnf⟩, hq1, hmt]) rfl rfl)
    · refine x_iconst dX11_putDown_25 ki_m1 ?_
      exact x_iret dX11_putDown_26 rfl (xEx_i G (by rw [show putDownS c (nI q) = _ from if_neg (fun e => by have e4 := e.2; rw [hq1] at e4; exact e4 (of_decide_eq_true c22))]; exact Cls_same hM hE) (by rw [show putDownS c (nI q) = _ from if_neg (fun e => by have e4 := e.2; rw [hq1] at e4; exact e4 (of_decide_eq_true c22))]) rfl rfl)
theorem Cls_bring {K : xG} {h x lo : Nat} {G : xHp} {tp : Nat → Nat} {tn : Nat} {rs : List (List Nat)} {c : xCo} {im : Nat → Option xCo} {v : Int32} (hC : ClsAt G h x lo tp tn rs c im) (hK : CoreOk c) : xCall K mX11_bring 2 0 0 [.ref x, .int v] h G (clQ G h x lo (bringS c v).1 tp tn rs (bringS c v).2 im) := by
  refine x_entry (by decide) (ls := [(0, .ref x), (1, .int v)]) rfl (Nat.le_of_ble_eq_true rfl) ?_
  obtain ⟨ruf, ima, ru, hM, hE⟩ := hC
  obtain ⟨m1, m2, m3, m4, m5, m6, m7, m8, m9⟩ := id hM
  obtain ⟨rows, nx, fi, fs, al, s1, s2, s3, s4, s5⟩ := id m7
  have hN : DayAt G (x + 26) c.1.1 c.1.2 (x + 16) ru := s4
  have hB := hN.2.1.2.2.2.2.2.2.2.2
  have hrc := hE.2.2.1
  have htn := m2.2.2
  obtain ⟨hO, hX, hK3, hK4, hK5, hK6, hK7, hK8, hK9, hK10⟩ := id hK
  obtain ⟨o2, o3, o4, o5, o6, o7, o8, o9⟩ := id hO
  refine x_aload_n dX11_bring_0 0 rfl ?_
  refine x_get dX11_bring_1 fX11_55 (m1) rfl ?_
  refine x_get dX11_bring_4 fX11_89 (hN.1) rfl ?_
  refine x_iload_n dX11_bring_7 1 rfl ?_
  refine x_cV (N := mX3_isSort) (d' := 0) (mc := 0) (ms := 0) (cb := 0) (sb := 0) (As := [.int v]) (st := []) dX11_bring_8 mX3_isSort_v lX11_145 rfl rfl (hN.2.1.1) rfl (by decide) (Nat.le_of_ble_eq_true rfl) (Hall_isSort hN.2.1) rfl (st1 := [.int (bI (inR v (c.1.1 0 2)))]) rfl ?_
  refine x_ifB_eq (tgt := 30) dX11_bring_11 (by decide) (fun c11 => ?_) (fun c11 => ?_)
  · refine x_iconst dX11_bring_30 ki_m1 ?_
    exact x_iret dX11_bring_31 rfl (xEx_i G (by rw [show bringS c v = _ from if_neg (fun e => absurd (c11.symm.trans e.1) (by decide))]; exact Cls_same hM hE) (by rw [show bringS c v = _ from if_neg (fun e => absurd (c11.symm.trans e.1) (by decide))]) rfl rfl)
  · have hc11 := c11
    obtain ⟨q, hq, hvq⟩ := inR_of c11
    subst hvq
    have hq1 := thN_nI (t := q) (by omega)
    refine x_aload_n dX11_bring_14 0 rfl ?_
    refine x_get dX11_bring_15 fX11_55 (m1) rfl ?_
    refine x_get dX11_bring_18 fX11_135 (hN.1) rfl ?_
    refine x_pc (pc' := 21) rfl ?_
    refine x_iconst dX11_bring_21 ki_1 ?_
    refine x_iload_n dX11_bring_22 1 rfl ?_
    refine x_iaddN dX11_bring_23 ?_
    refine x_ialdN dX11_bring_24 (hN.2.2) (by omega) (by decide) ?_
    refine x_bipush dX11_bring_25 kb_99 ?_
    refine x_icmp_lt (x := c.1.2 (1 + q)) (y := nI 99) (tgt := 32) dX11_bring_27 (by decide) (fun c27 => ?_) (fun c27 => ?_)
    · refine x_aload_n dX11_bring_32 0 rfl ?_
      refine x_get dX11_bring_33 fX11_47 (m1) rfl ?_
      refine x_cVe (N := mX10_keepForUndo) (d' := 1) (mc := 0) (ms := 0) (cb := 0) (sb := 0) (As := []) (st := []) dX11_bring_36 mX10_keepForUndo_v lX11_159 rfl rfl (s1) rfl (by decide) (Nat.le_of_ble_eq_true rfl) (St_keep m7) rfl (sf := fun G1 => []) (fun _ => rfl) (fun G1 hq1 => ?_)
      obtain ⟨k1, k2⟩ := hq1
      have n1 : G1 x = some (clsO x tn rs.length) := (k2 _ (by omega)).trans m1
      have hN1 : DayAt G1 (x + 26) c.1.1 c.1.2 (x + 16) ru := k1.day
      have hJ1 : JuAt G1 (x + 16) := m6.fr (fun a p q => k2 a (by omega))
      refine x_aload_n dX11_bring_39 0 rfl ?_
      refine x_pc (pc' := 40) rfl ?_
      refine x_get dX11_bring_40 fX11_55 (n1) rfl ?_
      refine x_get dX11_bring_43 fX11_135 (hN1.1) rfl ?_
      refine x_iconst dX11_bring_46 ki_1 ?_
      refine x_iload_n dX11_bring_47 1 rfl ?_
      refine x_iaddN dX11_bring_48 ?_
      refine x_dup2 dX11_bring_49 rfl rfl ?_
      refine x_ialdN dX11_bring_50 (hN1.2.2) (by omega) (by decide) ?_
      refine x_iconst dX11_bring_51 ki_1 ?_
      refine x_iadd dX11_bring_52 ?_
      refine x_iastN dX11_bring_53 (hN1.2.2) (by omega) (by decide) ?_
      refine x_pc (pc' := 54) rfl ?_
      refine x_aload_n dX11_bring_54 0 rfl ?_
      refine x_get dX11_bring_55 fX11_55 (xup_of (by omega) (n1)) rfl ?_
      refine x_get dX11_bring_58 fX11_135 (xup_of (by omega) (hN1.1)) rfl ?_
      refine x_iconst dX11_bring_61 ki_1 ?_
      refine x_iload_n dX11_bring_62 1 rfl ?_
      refine x_iaddN dX11_bring_63 ?_
      refine x_ialdN dX11_bring_64 (xup_eq) (by omega) (by decide) ?_
      exact x_iret dX11_bring_65 rfl (xEx_i _ (by rw [show bringS c (nI q) = _ from if_pos ⟨hc11, by rw [hq1]; exact c27⟩, hq1]; exact Cls_act (r' := upd c.1.2 (1 + q) (c.1.2 (1 + q) + nI 1)) hM hE k1 k2 rfl rfl) (by rw [show bringS c (nI q) = _ from if_pos ⟨hc11, by rw [hq1]; exact c27⟩, hq1, upd_at]) rfl rfl)
    · refine x_iconst dX11_bring_30 ki_m1 ?_
      exact x_iret dX11_bring_31 rfl (xEx_i G (by rw [show bringS c (nI q) = _ from if_neg (fun e => by have e4 := e.2; rw [hq1] at e4; exact c27 e4)]; exact Cls_same hM hE) (by rw [show bringS c (nI q) = _ from if_neg (fun e => by have e4 := e.2; rw [hq1] at e4; exact c27 e4)]) rfl rfl)
theorem Cls_coffee {K : xG} {h x lo : Nat} {G : xHp} {tp : Nat → Nat} {tn : Nat} {rs : List (List Nat)} {c : xCo} {im : Nat → Option xCo} {v w : Int32} (hC : ClsAt G h x lo tp tn rs c im) (hK : CoreOk c) : xCall K mX11_coffee 2 0 0 [.ref x, .int v, .int w] h G (clQ G h x lo (coffeeS c v w).1 tp tn rs (coffeeS c v w).2 im) := by
  refine x_entry (by decide) (ls := [(0, .ref x), (1, .int v), (2, .int w)]) rfl (Nat.le_of_ble_eq_true rfl) ?_
  obtain ⟨ruf, ima, ru, hM, hE⟩ := hC
  obtain ⟨m1, m2, m3, m4, m5, m6, m7, m8, m9⟩ := id hM
  obtain ⟨rows, nx, fi, fs, al, s1, s2, s3, s4, s5⟩ := id m7
  have hN : DayAt G (x + 26) c.1.1 c.1.2 (x + 16) ru := s4
  have hB := hN.2.1.2.2.2.2.2.2.2.2
  have hrc := hE.2.2.1
  have htn := m2.2.2
  obtain ⟨hO, hX, hK3, hK4, hK5, hK6, hK7, hK8, hK9, hK10⟩ := id hK
  obtain ⟨o2, o3, o4, o5, o6, o7, o8, o9⟩ := id hO
  refine x_aload_n dX11_coffee_0 0 rfl ?_
  refine x_get dX11_coffee_1 fX11_55 (m1) rfl ?_
  refine x_get dX11_coffee_4 fX11_89 (hN.1) rfl ?_
  refine x_iload_n dX11_coffee_7 1 rfl ?_
  refine x_cV (N := mX3_isMender) (d' := 0) (mc := 0) (ms := 0) (cb := 0) (sb := 0) (As := [.int v]) (st := []) dX11_coffee_8 mX3_isMender_v lX11_138 rfl rfl (hN.2.1.1) rfl (by decide) (Nat.le_of_ble_eq_true rfl) (Hall_isMender hN.2.1) rfl (st1 := [.int (bI (inR v (c.1.1 0 3)))]) rfl ?_
  refine x_ifB_eq (tgt := 51) dX11_coffee_11 (by decide) (fun c11 => ?_) (fun c11 => ?_)
  · refine x_iconst dX11_coffee_51 ki_m1 ?_
    exact x_iret dX11_coffee_52 rfl (xEx_i G (by rw [show coffeeS c v w = _ from if_neg (fun e => absurd (c11.symm.trans e.1) (by decide))]; exact Cls_same hM hE) (by rw [show coffeeS c v w = _ from if_neg (fun e => absurd (c11.symm.trans e.1) (by decide))]) rfl rfl)
  · have hc11 := c11
    obtain ⟨q, hq, hvq⟩ := inR_of c11
    subst hvq
    have hq1 := thN_nI (t := q) (by omega)
    refine x_iload_n dX11_coffee_14 2 rfl ?_
    refine x_iconst dX11_coffee_15 ki_1 ?_
    refine x_icmp_lt (x := w) (y := nI 1) (tgt := 51) dX11_coffee_16 (by decide) (fun c16 => ?_) (fun c16 => ?_)
    · refine x_pc (pc' := 51) rfl ?_
      refine x_iconst dX11_coffee_51 ki_m1 ?_
      exact x_iret dX11_coffee_52 rfl (xEx_i G (by rw [show coffeeS c (nI q) w = _ from if_neg (fun e => e.2.1 c16)]; exact Cls_same hM hE) (by rw [show coffeeS c (nI q) w = _ from if_neg (fun e => e.2.1 c16)]) rfl rfl)
    · refine x_pc (pc' := 19) rfl ?_
      refine x_iload_n dX11_coffee_19 2 rfl ?_
      refine x_bipush dX11_coffee_20 kb_60 ?_
      refine x_icmp_gt (x := w) (y := nI 60) (tgt := 51) dX11_coffee_22 (by decide) (fun c22 => ?_) (fun c22 => ?_)
      · refine x_iconst dX11_coffee_51 ki_m1 ?_
        exact x_iret dX11_coffee_52 rfl (xEx_i G (by rw [show coffeeS c (nI q) w = _ from if_neg (fun e => e.2.2.1 c22)]; exact Cls_same hM hE) (by rw [show coffeeS c (nI q) w = _ from if_neg (fun e => e.2.2.1 c22)]) rfl rfl)
      · refine x_aload_n dX11_coffee_25 0 rfl ?_
        refine x_get dX11_coffee_26 fX11_55 (m1) rfl ?_
        refine x_iload_n dX11_coffee_29 1 rfl ?_
        refine x_cV (N := mX2_isFree) (d' := 0) (mc := 0) (ms := 0) (cb := 0) (sb := 0) (As := [.int (nI q)]) (st := []) dX11_coffee_30 mX2_isFree_v lX11_165 rfl rfl (hN.1) rfl (by decide) (Nat.le_of_ble_eq_true rfl) (Day_isFree hN (by omega)) rfl (st1 := [.int (bI (decide (c.1.2 (5 + q) = -1)))]) rfl ?_
        refine x_ifB_eq (tgt := 51) dX11_coffee_33 (by decide) (fun c33 => ?_) (fun c33 => ?_)
        · refine x_iconst dX11_coffee_51 ki_m1 ?_
          exact x_iret dX11_coffee_52 rfl (xEx_i G (by rw [show coffeeS c (nI q) w = _ from if_neg (fun e => by have e4 := e.2.2.2.1; rw [hq1] at e4; exact of_decide_eq_false c33 e4)]; exact Cls_same hM hE) (by rw [show coffeeS c (nI q) w = _ from if_neg (fun e => by have e4 := e.2.2.2.1; rw [hq1] at e4; exact of_decide_eq_false c33 e4)]) rfl rfl)
        · refine x_aload_n dX11_coffee_36 0 rfl ?_
          refine x_get dX11_coffee_37 fX11_55 (m1) rfl ?_
          refine x_pc (pc' := 40) rfl ?_
          refine x_get dX11_coffee_40 fX11_135 (hN.1) rfl ?_
          refine x_bipush dX11_coffee_43 kb_13 ?_
          refine x_iload_n dX11_coffee_45 1 rfl ?_
          refine x_iaddN dX11_coffee_46 ?_
          refine x_ialdN dX11_coffee_47 (hN.2.2) (by omega) (by decide) ?_
          refine x_if_le (tgt := 53) dX11_coffee_48 (by decide) (fun c48 => ?_) (fun c48 => ?_)
          · refine x_aload_n dX11_coffee_53 0 rfl ?_
            refine x_get dX11_coffee_54 fX11_47 (m1) rfl ?_
            refine x_cVe (N := mX10_keepForUndo) (d' := 1) (mc := 0) (ms := 0) (cb := 0) (sb := 0) (As := []) (st := []) dX11_coffee_57 mX10_keepForUndo_v lX11_159 rfl rfl (s1) rfl (by decide) (Nat.le_of_ble_eq_true rfl) (St_keep m7) rfl (sf := fun G1 => []) (fun _ => rfl) (fun G1 hq1 => ?_)
            obtain ⟨k1, k2⟩ := hq1
            have n1 : G1 x = some (clsO x tn rs.length) := (k2 _ (by omega)).trans m1
            have hN1 : DayAt G1 (x + 26) c.1.1 c.1.2 (x + 16) ru := k1.day
            have hJ1 : JuAt G1 (x + 16) := m6.fr (fun a p q => k2 a (by omega))
            refine x_aload_n dX11_coffee_60 0 rfl ?_
            refine x_pc (pc' := 61) rfl ?_
            refine x_get dX11_coffee_61 fX11_55 (n1) rfl ?_
            refine x_get dX11_coffee_64 fX11_135 (hN1.1) rfl ?_
            refine x_bipush dX11_coffee_67 kb_13 ?_
            refine x_iload_n dX11_coffee_69 1 rfl ?_
            refine x_iaddN dX11_coffee_70 ?_
            refine x_iload_n dX11_coffee_71 2 rfl ?_
            refine x_iastN dX11_coffee_72 (hN1.2.2) (by omega) (by decide) ?_
            refine x_aload_n dX11_coffee_73 0 rfl ?_
            refine x_get dX11_coffee_74 fX11_55 (xup_of (by omega) (n1)) rfl ?_
            refine x_cV (N := mX2_atCoffee) (d' := 0) (mc := 0) (ms := 0) (cb := 0) (sb := 0) (As := []) (st := []) dX11_coffee_77 mX2_atCoffee_v lX11_179 rfl rfl (xup_of (by omega) (hN1.1)) rfl (by decide) (Nat.le_of_ble_eq_true rfl) (Day_atCoffee (hN1.row _) hO) rfl (st1 := [.int (nI (cntF (fun q_1 => decide (0 < upd c.1.2 (13 + q) w (13 + q_1))) (c.1.1 0 3)))]) rfl ?_
            refine x_pc (pc' := 80) rfl ?_
            exact x_iret dX11_coffee_80 rfl (xEx_i _ (by rw [show coffeeS c (nI q) w = _ from if_pos ⟨hc11, c16, c22, by rw [hq1]; exact of_decide_eq_true c33, by rw [hq1]; exact Int32.not_lt.mpr c48⟩, hq1]; exact Cls_act (r' := upd c.1.2 (13 + q) w) hM hE k1 k2 rfl rfl) (by rw [show coffeeS c (nI q) w = _ from if_pos ⟨hc11, c16, c22, by rw [hq1]; exact of_decide_eq_true c33, by rw [hq1]; exact Int32.not_lt.mpr c48⟩, hq1]) rfl rfl)
          · refine x_iconst dX11_coffee_51 ki_m1 ?_
            exact x_iret dX11_coffee_52 rfl (xEx_i G (by rw [show coffeeS c (nI q) w = _ from if_neg (fun e => by have e4 := e.2.2.2.2; rw [hq1] at e4; exact e4 (Int32.not_le.mp c48))]; exact Cls_same hM hE) (by rw [show coffeeS c (nI q) w = _ from if_neg (fun e => by have e4 := e.2.2.2.2; rw [hq1] at e4; exact e4 (Int32.not_le.mp c48))]) rfl rfl)
theorem Cls_undo {K : xG} {h x lo : Nat} {G : xHp} {tp : Nat → Nat} {tn : Nat} {rs : List (List Nat)} {c : xCo} {im : Nat → Option xCo} (hC : ClsAt G h x lo tp tn rs c im) (hK : CoreOk c) : xCall K mX11_undo 2 0 0 [.ref x] h G (clQ G h x lo (undoS c).1 tp tn rs (undoS c).2 im) := by
  refine x_entry (by decide) (ls := [(0, .ref x)]) rfl (Nat.le_of_ble_eq_true rfl) ?_
  obtain ⟨ruf, ima, ru, hM, hE⟩ := hC
  obtain ⟨m1, m2, m3, m4, m5, m6, m7, m8, m9⟩ := id hM
  obtain ⟨rows, nx, fi, fs, al, s1, s2, s3, s4, s5⟩ := id m7
  have hN : DayAt G (x + 26) c.1.1 c.1.2 (x + 16) ru := s4
  have hB := hN.2.1.2.2.2.2.2.2.2.2
  have hrc := hE.2.2.1
  have htn := m2.2.2
  obtain ⟨hO, hX, hK3, hK4, hK5, hK6, hK7, hK8, hK9, hK10⟩ := id hK
  obtain ⟨o2, o3, o4, o5, o6, o7, o8, o9⟩ := id hO
  refine x_aload_n dX11_undo_0 0 rfl ?_
  refine x_get dX11_undo_1 fX11_47 (m1) rfl ?_
  refine x_get dX11_undo_4 fX11_182 (s1) rfl ?_
  refine x_ifN_gt (tgt := 13) dX11_undo_7 (by decide) (by have := hB 0 0; have := hB 0 2; have := hB 0 3; have := hB 0 4; omega) (fun c7 => ?_) (fun c7 => ?_)
  · refine x_aload_n dX11_undo_13 0 rfl ?_
    refine x_get dX11_undo_14 fX11_47 (m1) rfl ?_
    refine x_cVe (N := mX10_undoLast) (d' := 1) (mc := 0) (ms := 0) (cb := 0) (sb := 0) (As := []) (st := []) dX11_undo_17 mX10_undoLast_v lX11_185 rfl rfl (s1) rfl (by decide) (Nat.le_of_ble_eq_true rfl) (St_undo m7 c7) rfl (sf := fun G1 => []) (fun _ => rfl) (fun G1 hq1 => ?_)
    obtain ⟨k1, k2⟩ := hq1
    have n1 : G1 x = some (clsO x tn rs.length) := (k2 _ (by omega)).trans m1
    obtain ⟨rows1, nx1, fi1, fs1, al1, t1, t2, t3, t4, t5⟩ := id k1
    refine x_aload_n dX11_undo_20 0 rfl ?_
    refine x_get dX11_undo_21 fX11_47 (n1) rfl ?_
    refine x_pc (pc' := 24) rfl ?_
    refine x_get dX11_undo_24 fX11_182 (t1) rfl ?_
    exact x_iret dX11_undo_27 rfl (xEx_i G1 (by rw [show undoS c = _ from if_neg (by omega)]; exact Cls_st hM hE k1 (m6.fr (fun a p q => k2 a (by omega))) (fun a ha => k2 a (by omega)) hE.2.2.2.2.1) (by rw [show undoS c = _ from if_neg (by omega)]) rfl rfl)
  · refine x_bipush dX11_undo_10 kb_m2 ?_
    exact x_iret dX11_undo_12 rfl (xEx_i G (by rw [show undoS c = _ from if_pos c7]; exact Cls_same hM hE) (by rw [show undoS c = _ from if_pos c7]) rfl rfl)
theorem Cls_ruleOf_n {K : xG} {h x : Nat} {G : xHp} : xCall K mX11_ruleOf 0 0 0 [.ref x, .int (-1)] h G (xRet (some .null) h G) := by
  refine x_entry (by decide) (ls := [(0, .ref x), (1, .int (-1))]) rfl (Nat.le_of_ble_eq_true rfl) ?_
  refine x_iload_n dX11_ruleOf_0 1 rfl ?_
  refine x_if_lt (tgt := 21) dX11_ruleOf_1 (by decide) (fun c1 => ?_) (fun c1 => ?_)
  · refine x_null dX11_ruleOf_21 ?_
    exact x_aret dX11_ruleOf_22 rfl (by simp) (by simp) (xRet_i)
  · exact absurd c1 (by decide)
theorem Cls_ruleOf_i {K : xG} {h x tn rc i ra : Nat} {G : xHp} {ruf : Nat → Option Nat} (m1 : G x = some (clsO x tn rc)) (m5 : G (x + 15) = some (eQ 0 6 ruf)) (hi : i < rc) (hrc : rc ≤ 6) (hra : ruf i = some ra) : xCall K mX11_ruleOf 0 0 0 [.ref x, .int (nI i)] h G (xRet (some (.ref ra)) h G) := by
  refine x_entry (by decide) (ls := [(0, .ref x), (1, .int (nI i))]) rfl (Nat.le_of_ble_eq_true rfl) ?_
  refine x_iload_n dX11_ruleOf_0 1 rfl ?_
  refine x_ifN_lt (tgt := 21) dX11_ruleOf_1 (by decide) (by omega) (fun c1 => ?_) (fun c1 => ?_)
  · exact absurd c1 id
  · refine x_iload_n dX11_ruleOf_4 1 rfl ?_
    refine x_aload_n dX11_ruleOf_5 0 rfl ?_
    refine x_get dX11_ruleOf_6 fX11_97 (m1) rfl ?_
    refine x_icmpN_ge (tgt := 21) dX11_ruleOf_9 (by decide) (by omega) (by omega) (fun c9 => ?_) (fun c9 => ?_)
    · exact absurd c9 (by omega)
    · refine x_aload_n dX11_ruleOf_12 0 rfl ?_
      refine x_get dX11_ruleOf_13 fX11_31 (m1) rfl ?_
      refine x_iload_n dX11_ruleOf_16 1 rfl ?_
      refine x_pc (pc' := 17) rfl ?_
      refine x_aald4N dX11_ruleOf_17 (m5) (by omega) (by decide) ?_
      refine x_seq (st' := [.ref ra]) (by rw [hra]; rfl) ?_
      refine x_goto (tgt := 22) dX11_ruleOf_18 (by decide) ?_
      exact x_aret dX11_ruleOf_22 rfl (by simp) (by simp) (xRet_i)
theorem Cls_force {K : xG} {h x lo : Nat} {G : xHp} {tp : Nat → Nat} {tn : Nat} {rs : List (List Nat)} {c : xCo} {im : Nat → Option xCo} {v : Int32} (hC : ClsAt G h x lo tp tn rs c im) (hK : CoreOk c) : xCall K mX11_force 1 0 0 [.ref x, .int v] h G (clQ G h x lo (forceS rs.length c v).1 tp tn rs (forceS rs.length c v).2 im) := by
  refine x_entry (by decide) (ls := [(0, .ref x), (1, .int v)]) rfl (Nat.le_of_ble_eq_true rfl) ?_
  obtain ⟨ruf, ima, ru, hM, hE⟩ := hC
  obtain ⟨m1, m2, m3, m4, m5, m6, m7, m8, m9⟩ := id hM
  obtain ⟨rows, nx, fi, fs, al, s1, s2, s3, s4, s5⟩ := id m7
  have hN : DayAt G (x + 26) c.1.1 c.1.2 (x + 16) ru := s4
  have hB := hN.2.1.2.2.2.2.2.2.2.2
  have hrc := hE.2.2.1
  have htn := m2.2.2
  obtain ⟨hO, hX, hK3, hK4, hK5, hK6, hK7, hK8, hK9, hK10⟩ := id hK
  obtain ⟨o2, o3, o4, o5, o6, o7, o8, o9⟩ := id hO
  refine x_iload_n dX11_force_0 1 rfl ?_
  refine x_iconst dX11_force_1 ki_m1 ?_
  refine x_icmp_eq (x := v) (y := (-1)) (tgt := 20) dX11_force_2 (by decide) (fun c2 => ?_) (fun c2 => ?_)
  · subst c2
    refine x_aload_n dX11_force_20 0 rfl ?_
    refine x_get dX11_force_21 fX11_47 (m1) rfl ?_
    refine x_get dX11_force_24 fX11_105 (s1) rfl ?_
    refine x_istore_n (ls' := [(2, .int c.2.2.1.2.1), (0, .ref x), (1, .int (-1))]) dX11_force_27 (by decide) rfl ?_
    refine x_aload_n dX11_force_28 1 rfl ?_
    refine x_get dX11_force_29 fX11_47 (m1) rfl ?_
    refine x_pc (pc' := 32) rfl ?_
    refine x_iload_n dX11_force_32 2 rfl ?_
    refine x_put (fs' := [.ref (x + 26), .ref (x + 20), .int (bI c.2.2.1.1), .int (-1), .int (nI c.2.2.1.2.2), .ref (x + 25), .int (nI nx), .int (nI c.2.2.2.2)]) dX11_force_33 fX11_105 (s1) (Nat.le_of_ble_eq_true rfl) rfl rfl rfl ?_
    refine x_aload_n dX11_force_36 1 rfl ?_
    refine x_get dX11_force_37 fX11_55 (xup_of (by omega) (m1)) rfl ?_
    refine x_aload_n dX11_force_40 1 rfl ?_
    refine x_iload_n dX11_force_41 2 rfl ?_
    refine x_cV (N := mX11_ruleOf) (d' := 0) (mc := 0) (ms := 0) (cb := 0) (sb := 0) (As := [.int (-1)]) (st := [.ref (x + 26)]) dX11_force_42 mX11_ruleOf_v lX11_108 rfl rfl (xup_of (by omega) (m1)) rfl (by decide) (Nat.le_of_ble_eq_true rfl) (Cls_ruleOf_n) rfl (st1 := [.null, .ref (x + 26)]) rfl ?_
    refine x_put (fs' := [.ref (x + 27), .ref (x + 35), .ref (x + 16), .null]) dX11_force_45 fX11_112 (xup_of (by omega) (hN.1)) (Nat.le_of_ble_eq_true rfl) rfl rfl rfl ?_
    refine x_iload_n dX11_force_48 0 rfl ?_
    exact x_iret dX11_force_49 rfl (xEx_i _ (by rw [show forceS rs.length c (-1) = _ from if_pos (Or.inl rfl)]; exact Cls_st (ru' := none) hM hE ⟨rows, nx, fi, fs, al, xup_of (by omega) xup_eq, (s2.off (by omega)).off (by omega), xup_of (by omega) (xup_of (by omega) s3), ⟨xup_eq, s4.2.1.fr (fun a p q => by rw [xup_ne (by omega), xup_ne (by omega)]), xup_of (by omega) (xup_of (by omega) s4.2.2)⟩, s5⟩ (m6.fr (fun a p q => by rw [xup_ne (by omega), xup_ne (by omega)])) (fun a ha => by rw [xup_ne (by omega), xup_ne (by omega)]) (Or.inl ⟨rfl, rfl⟩)) (by rw [show forceS rs.length c (-1) = _ from if_pos (Or.inl rfl)]) rfl rfl)
  · refine x_iload_n dX11_force_5 1 rfl ?_
    refine x_if_lt (tgt := 17) dX11_force_6 (by decide) (fun c6 => ?_) (fun c6 => ?_)
    · refine x_bipush dX11_force_17 kb_m2 ?_
      exact x_iret dX11_force_19 rfl (xEx_i G (by rw [show forceS rs.length c v = _ from if_neg (fun e => e.elim c2 (fun q => absurd ((inR_neg c6).symm.trans q) (by decide)))]; exact Cls_same hM hE) (by rw [show forceS rs.length c v = _ from if_neg (fun e => e.elim c2 (fun q => absurd ((inR_neg c6).symm.trans q) (by decide)))]) rfl rfl)
    · refine x_iload_n dX11_force_9 1 rfl ?_
      refine x_aload_n dX11_force_10 0 rfl ?_
      refine x_get dX11_force_11 fX11_97 (m1) rfl ?_
      refine x_icmp_lt (x := v) (y := nI rs.length) (tgt := 20) dX11_force_14 (by decide) (fun c14 => ?_) (fun c14 => ?_)
      · have hin : inR v rs.length = true := inR_in (by omega) c6 (Int32.not_le.mpr c14)
        have hin2 := hin
        obtain ⟨i, hi, hvi⟩ := inR_of hin
        subst hvi
        obtain ⟨ra, sp, r1, r2, r3⟩ := hE.2.2.2.1 i hi
        refine x_pc (pc' := 20) rfl ?_
        refine x_aload_n dX11_force_20 0 rfl ?_
        refine x_get dX11_force_21 fX11_47 (m1) rfl ?_
        refine x_get dX11_force_24 fX11_105 (s1) rfl ?_
        refine x_istore_n (ls' := [(2, .int c.2.2.1.2.1), (0, .ref x), (1, .int (nI i))]) dX11_force_27 (by decide) rfl ?_
        refine x_aload_n dX11_force_28 1 rfl ?_
        refine x_get dX11_force_29 fX11_47 (m1) rfl ?_
        refine x_iload_n dX11_force_32 2 rfl ?_
        refine x_put (fs' := [.ref (x + 26), .ref (x + 20), .int (bI c.2.2.1.1), .int (nI i), .int (nI c.2.2.1.2.2), .ref (x + 25), .int (nI nx), .int (nI c.2.2.2.2)]) dX11_force_33 fX11_105 (s1) (Nat.le_of_ble_eq_true rfl) rfl rfl rfl ?_
        refine x_aload_n dX11_force_36 1 rfl ?_
        refine x_get dX11_force_37 fX11_55 (xup_of (by omega) (m1)) rfl ?_
        refine x_pc (pc' := 40) rfl ?_
        refine x_aload_n dX11_force_40 1 rfl ?_
        refine x_iload_n dX11_force_41 2 rfl ?_
        refine x_cV (N := mX11_ruleOf) (d' := 0) (mc := 0) (ms := 0) (cb := 0) (sb := 0) (As := [.int (nI i)]) (st := [.ref (x + 26)]) dX11_force_42 mX11_ruleOf_v lX11_108 rfl rfl (xup_of (by omega) (m1)) rfl (by decide) (Nat.le_of_ble_eq_true rfl) (Cls_ruleOf_i (xup_of (by omega) (m1)) (xup_of (by omega) (m5)) hi hrc r1) rfl (st1 := [.ref ra, .ref (x + 26)]) rfl ?_
        refine x_put (fs' := [.ref (x + 27), .ref (x + 35), .ref (x + 16), .ref ra]) dX11_force_45 fX11_112 (xup_of (by omega) (hN.1)) (Nat.le_of_ble_eq_true rfl) rfl rfl rfl ?_
        refine x_iload_n dX11_force_48 0 rfl ?_
        exact x_iret dX11_force_49 rfl (xEx_i _ (by rw [show forceS rs.length c (nI i) = _ from if_pos (Or.inr hin2)]; exact Cls_st (ru' := (some ra)) hM hE ⟨rows, nx, fi, fs, al, xup_of (by omega) xup_eq, (s2.off (by omega)).off (by omega), xup_of (by omega) (xup_of (by omega) s3), ⟨xup_eq, s4.2.1.fr (fun a p q => by rw [xup_ne (by omega), xup_ne (by omega)]), xup_of (by omega) (xup_of (by omega) s4.2.2)⟩, s5⟩ (m6.fr (fun a p q => by rw [xup_ne (by omega), xup_ne (by omega)])) (fun a ha => by rw [xup_ne (by omega), xup_ne (by omega)]) (Or.inr ⟨i, hi, rfl, r1.symm⟩)) (by rw [show forceS rs.length c (nI i) = _ from if_pos (Or.inr hin2)]) rfl rfl)
      · refine x_pc (pc' := 17) rfl ?_
        refine x_bipush dX11_force_17 kb_m2 ?_
        exact x_iret dX11_force_19 rfl (xEx_i G (by rw [show forceS rs.length c v = _ from if_neg (fun e => e.elim c2 (fun q => absurd ((inR_ge (by omega) (Int32.not_lt.mp c14)).symm.trans q) (by decide)))]; exact Cls_same hM hE) (by rw [show forceS rs.length c v = _ from if_neg (fun e => e.elim c2 (fun q => absurd ((inR_ge (by omega) (Int32.not_lt.mp c14)).symm.trans q) (by decide)))]) rfl rfl)
theorem Cls_book {K : xG} {h x lo : Nat} {G : xHp} {tp : Nat → Nat} {tn : Nat} {rs : List (List Nat)} {c : xCo} {im : Nat → Option xCo} {v w y : Int32} (hC : ClsAt G h x lo tp tn rs c im) (hK : CoreOk c) : xCall K mX11_book 1 0 0 [.ref x, .int v, .int w, .int y] h G (clQ G h x lo (bookS c v w y).1 tp tn rs (bookS c v w y).2 im) := by
  refine x_entry (by decide) (ls := [(0, .ref x), (1, .int v), (2, .int w), (3, .int y)]) rfl (Nat.le_of_ble_eq_true rfl) ?_
  obtain ⟨ruf, ima, ru, hM, hE⟩ := hC
  obtain ⟨m1, m2, m3, m4, m5, m6, m7, m8, m9⟩ := id hM
  obtain ⟨rows, nx, fi, fs, al, s1, s2, s3, s4, s5⟩ := id m7
  have hN : DayAt G (x + 26) c.1.1 c.1.2 (x + 16) ru := s4
  have hB := hN.2.1.2.2.2.2.2.2.2.2
  have hrc := hE.2.2.1
  have htn := m2.2.2
  obtain ⟨hO, hX, hK3, hK4, hK5, hK6, hK7, hK8, hK9, hK10⟩ := id hK
  obtain ⟨o2, o3, o4, o5, o6, o7, o8, o9⟩ := id hO
  have hbn := hK5.1
  refine x_iload_n dX11_book_0 1 rfl ?_
  refine x_iconst dX11_book_1 ki_m1 ?_
  refine x_icmp_ne (x := v) (y := (-1)) (tgt := 18) dX11_book_2 (by decide) (fun c2 => ?_) (fun c2 => ?_)
  · refine x_iload_n dX11_book_18 1 rfl ?_
    refine x_if_lt (tgt := 67) dX11_book_19 (by decide) (fun c19 => ?_) (fun c19 => ?_)
    · refine x_bipush dX11_book_67 kb_m2 ?_
      exact x_iret dX11_book_69 rfl (xEx_i G (by rw [show bookS c v w y = _ from (if_neg c2).trans (if_neg (fun e => absurd ((inR_neg c19).symm.trans e.1) (by decide)))]; exact Cls_same hM hE) (by rw [show bookS c v w y = _ from (if_neg c2).trans (if_neg (fun e => absurd ((inR_neg c19).symm.trans e.1) (by decide)))]) rfl rfl)
    · refine x_iload_n dX11_book_22 1 rfl ?_
      refine x_sipush dX11_book_23 ks_400 ?_
      refine x_icmp_ge (x := v) (y := nI 400) (tgt := 67) dX11_book_26 (by decide) (fun c26 => ?_) (fun c26 => ?_)
      · refine x_bipush dX11_book_67 kb_m2 ?_
        refine x_pc (pc' := 69) rfl ?_
        exact x_iret dX11_book_69 rfl (xEx_i G (by rw [show bookS c v w y = _ from (if_neg c2).trans (if_neg (fun e => absurd ((inR_ge (by decide) c26).symm.trans e.1) (by decide)))]; exact Cls_same hM hE) (by rw [show bookS c v w y = _ from (if_neg c2).trans (if_neg (fun e => absurd ((inR_ge (by decide) c26).symm.trans e.1) (by decide)))]) rfl rfl)
      · have hin : inR v 400 = true := inR_in (by decide) c19 c26
        have hin2 := hin
        obtain ⟨n, hn, hvn⟩ := inR_of hin
        subst hvn
        have hn1 := thN_nI (t := n) (by omega)
        refine x_aload_n dX11_book_29 0 rfl ?_
        refine x_pc (pc' := 30) rfl ?_
        refine x_get dX11_book_30 fX11_55 (m1) rfl ?_
        refine x_get dX11_book_33 fX11_89 (hN.1) rfl ?_
        refine x_iload_n dX11_book_36 2 rfl ?_
        refine x_cV (N := mX3_isThing) (d' := 0) (mc := 0) (ms := 0) (cb := 0) (sb := 0) (As := [.int w]) (st := []) dX11_book_37 mX3_isThing_v lX11_116 rfl rfl (hN.2.1.1) rfl (by decide) (Nat.le_of_ble_eq_true rfl) (Hall_isThing hN.2.1) rfl (st1 := [.int (bI (inR w (c.1.1 0 4)))]) rfl ?_
        refine x_ifB_eq (tgt := 67) dX11_book_40 (by decide) (fun c40 => ?_) (fun c40 => ?_)
        · refine x_bipush dX11_book_67 kb_m2 ?_
          exact x_iret dX11_book_69 rfl (xEx_i G (by rw [show bookS c (nI n) w y = _ from (if_neg c2).trans (if_neg (fun e => absurd (c40.symm.trans e.2.1) (by decide)))]; exact Cls_same hM hE) (by rw [show bookS c (nI n) w y = _ from (if_neg c2).trans (if_neg (fun e => absurd (c40.symm.trans e.2.1) (by decide)))]) rfl rfl)
        · have hc40 := c40
          obtain ⟨t, ht, hvt⟩ := inR_of c40
          subst hvt
          have ht1 := thN_nI (t := t) (by omega)
          refine x_iload_n dX11_book_43 3 rfl ?_
          refine x_if_lt (tgt := 67) dX11_book_44 (by decide) (fun c44 => ?_) (fun c44 => ?_)
          · refine x_bipush dX11_book_67 kb_m2 ?_
            exact x_iret dX11_book_69 rfl (xEx_i G (by rw [show bookS c (nI n) (nI t) y = _ from (if_neg c2).trans (if_neg (fun e => absurd ((inR_neg c44).symm.trans e.2.2.1) (by decide)))]; exact Cls_same hM hE) (by rw [show bookS c (nI n) (nI t) y = _ from (if_neg c2).trans (if_neg (fun e => absurd ((inR_neg c44).symm.trans e.2.2.1) (by decide)))]) rfl rfl)
          · refine x_iload_n dX11_book_47 3 rfl ?_
            refine x_iconst dX11_book_48 ki_4 ?_
            refine x_icmp_gt (x := y) (y := nI 4) (tgt := 67) dX11_book_49 (by decide) (fun c49 => ?_) (fun c49 => ?_)
            · refine x_pc (pc' := 67) rfl ?_
              refine x_bipush dX11_book_67 kb_m2 ?_
              exact x_iret dX11_book_69 rfl (xEx_i G (by rw [show bookS c (nI n) (nI t) y = _ from (if_neg c2).trans (if_neg (fun e => absurd ((inR_gt (m := 4) (by decide) (Int32.not_le.mpr c49)).symm.trans e.2.2.1) (by decide)))]; exact Cls_same hM hE) (by rw [show bookS c (nI n) (nI t) y = _ from (if_neg c2).trans (if_neg (fun e => absurd ((inR_gt (m := 4) (by decide) (Int32.not_le.mpr c49)).symm.trans e.2.2.1) (by decide)))]) rfl rfl)
            · have hiy : inR y 5 = true := inR_le (m := 4) (by decide) c44 (Int32.not_lt.mp c49)
              have hiy2 := hiy
              obtain ⟨u, hu, hvu⟩ := inR_of hiy
              subst hvu
              have hu1 := thN_nI (t := u) (by omega)
              refine x_pc (pc' := 52) rfl ?_
              refine x_aload_n dX11_book_52 0 rfl ?_
              refine x_get dX11_book_53 fX11_47 (m1) rfl ?_
              refine x_get dX11_book_56 fX11_243 (s1) rfl ?_
              refine x_get dX11_book_59 fX11_247 (s2.1) rfl ?_
              refine x_bipush dX11_book_62 kb_10 ?_
              refine x_icmpN_lt (tgt := 70) dX11_book_64 (by decide) (by have := hB 0 0; have := hB 0 2; have := hB 0 3; have := hB 0 4; omega) (by have := hB 0 0; have := hB 0 2; have := hB 0 3; have := hB 0 4; omega) (fun c64 => ?_) (fun c64 => ?_)
              · refine x_aload_n dX11_book_70 0 rfl ?_
                refine x_get dX11_book_71 fX11_47 (m1) rfl ?_
                refine x_get dX11_book_74 fX11_243 (s1) rfl ?_
                refine x_iload_n dX11_book_77 1 rfl ?_
                refine x_pc (pc' := 78) rfl ?_
                refine x_iload_n dX11_book_78 2 rfl ?_
                refine x_iload_n dX11_book_79 3 rfl ?_
                refine x_cVe (N := mX1_write) (d' := 0) (mc := 0) (ms := 0) (cb := 0) (sb := 0) (As := [.int (nI n), .int (nI t), .int (nI u)]) (st := []) dX11_book_80 mX1_write_v lX11_252 rfl rfl (s2.1) rfl (by decide) (Nat.le_of_ble_eq_true rfl) (Books_write s2 c64) rfl (sf := fun G1 => []) (fun _ => rfl) (fun G1 hq1 => ?_)
                obtain ⟨k1, k2⟩ := hq1
                have n1 : G1 x = some (clsO x tn rs.length) := (k2 _ (by omega)).trans m1
                have t1 := (k2 (x + 19) (by omega)).trans s1
                refine x_aload_n dX11_book_83 0 rfl ?_
                refine x_get dX11_book_84 fX11_47 (n1) rfl ?_
                refine x_get dX11_book_87 fX11_243 (t1) rfl ?_
                refine x_get dX11_book_90 fX11_247 (k1.1) rfl ?_
                exact x_iret dX11_book_93 rfl (xEx_i G1 (by rw [show bookS c (nI n) (nI t) (nI u) = _ from (if_neg c2).trans (if_pos ⟨hin2, hc40, hiy2, c64⟩), hn1, ht1, hu1]; exact Cls_st hM hE ⟨rows, nx, fi, fs, al, t1, k1, (k2 (x + 25) (by omega)).trans s3, s4.fr (fun a p q => k2 a (by omega)), s5⟩ (m6.fr (fun a p q => k2 a (by omega))) (fun a ha => k2 a (by omega)) hE.2.2.2.2.1) (by rw [show bookS c (nI n) (nI t) (nI u) = _ from (if_neg c2).trans (if_pos ⟨hin2, hc40, hiy2, c64⟩)]) rfl rfl)
              · refine x_bipush dX11_book_67 kb_m2 ?_
                exact x_iret dX11_book_69 rfl (xEx_i G (by rw [show bookS c (nI n) (nI t) (nI u) = _ from (if_neg c2).trans (if_neg (fun e => absurd e.2.2.2 (by omega)))]; exact Cls_same hM hE) (by rw [show bookS c (nI n) (nI t) (nI u) = _ from (if_neg c2).trans (if_neg (fun e => absurd e.2.2.2 (by omega)))]) rfl rfl)
  · refine x_aload_n dX11_book_5 0 rfl ?_
    refine x_get dX11_book_6 fX11_47 (m1) rfl ?_
    refine x_get dX11_book_9 fX11_243 (s1) rfl ?_
    refine x_iconst dX11_book_12 ki_0 ?_
    refine x_put (fs' := [.ref (x + 21), .ref (x + 22), .ref (x + 23), .int (nI 0), .int (nI fi), .int fs, .ref (x + 24)]) dX11_book_13 fX11_247 (s2.1) (Nat.le_of_ble_eq_true rfl) rfl rfl rfl ?_
    refine x_iconst dX11_book_16 ki_0 ?_
    refine x_pc (pc' := 17) rfl ?_
    exact x_iret dX11_book_17 rfl (xEx_i _ (by rw [show bookS c v w y = _ from if_pos c2]; exact Cls_st hM hE ⟨rows, nx, fi, fs, al, xup_of (by omega) s1, s2.obj 0 fi fs, xup_of (by omega) s3, s4.off (by omega), s5⟩ (m6.fr (fun a p q => xup_ne (by omega))) (fun a ha => xup_ne (by omega)) hE.2.2.2.2.1) (by rw [show bookS c v w y = _ from if_pos c2]) rfl rfl)
