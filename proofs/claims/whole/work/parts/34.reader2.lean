
theorem Rd_init {K : xG} {h b tx : Nat} {G : xHp} (hb : G b = some (eO 7 [.null, .int 0, .int 0, .int 0, .int 0, .int 0, .int 0, .int 0])) : xCall K mX7_init 1 0 0 [.ref b, .ref tx] h G (xRet none h (xup G b (eO 7 [.ref tx, .int 0, .int 0, .int 0, .int 0, .int 0, .int 0, .int 0]))) := by
  refine x_entry (by decide) (ls := [(0, .ref b), (1, .ref tx)]) rfl (Nat.le_of_ble_eq_true rfl) ?_
  refine x_aload_n dX7_init_0 0 rfl ?_
  refine x_objInit dX7_init_1 lX7_3 xw_objI xw_objC (by decide) (Nat.le_of_ble_eq_true rfl) ?_
  refine x_aload_n dX7_init_4 0 rfl ?_
  refine x_aload_n dX7_init_5 1 rfl ?_
  refine x_putF (fs' := [.ref tx, .int 0, .int 0, .int 0, .int 0, .int 0, .int 0, .int 0]) dX7_init_6 fX7_9 rfl rfl (hb) (Nat.le_of_ble_eq_true rfl) rfl rfl rfl ?_
  exact x_vret dX7_init_9 rfl (xRet_i)
theorem Rd_fail_o {K : xG} {h b tx n : Nat} {G : xHp} {tp : Nat → Nat} {p : Nat} {w : Nat} (hR : RdAt G b tx n tp 0 p) (hbt : b ≠ tx) (hw : w < 8) : xCall K mX7_fail 0 0 0 [.ref b, .int (nI w)] h G (rdQ G h b tx n tp none (flP tp n 0 p w) p) := by
  refine x_entry (by decide) (ls := [(0, .ref b), (1, .int (nI w))]) rfl (Nat.le_of_ble_eq_true rfl) ?_
  obtain ⟨a1, a2, a3, a4, -⟩ := id hR
  have s1 := sk_le (tp := tp) a2
  have s2 := at_le (tp := tp) s1.2
  have s3 := kd_lt tp n (skP tp n p)
  have s4 := sg_lt a4 n (skP tp n p)
  refine x_aload_n dX7_fail_0 0 rfl ?_
  refine x_get dX7_fail_1 fX7_28 (hR.ok) rfl ?_
  refine x_ifN_ne (tgt := 22) dX7_fail_4 (by decide) (by omega) (fun c4 => ?_) (fun c4 => ?_)
  · exact absurd rfl c4
  · refine x_aload_n dX7_fail_7 0 rfl ?_
    refine x_iconst dX7_fail_8 ki_1 ?_
    refine x_bipush dX7_fail_9 kb_8 ?_
    refine x_aload_n dX7_fail_11 0 rfl ?_
    refine x_get dX7_fail_12 fX7_34 (hR.ok) rfl ?_
    refine x_imulN dX7_fail_15 ?_
    refine x_pc (pc' := 16) rfl ?_
    refine x_iaddN dX7_fail_16 ?_
    refine x_iload_n dX7_fail_17 1 rfl ?_
    refine x_iaddN dX7_fail_18 ?_
    refine x_put (fs' := [.ref tx, .int (nI n), .int (nI (atA tp n (skP tp n p))), .int (nI (kdA tp n (skP tp n p))), .int (nI (skP tp n p)), .int (nI (sgA tp n (skP tp n p))), .int (nmA tp n (skP tp n p)), .int (nI ((1 + (8 * (skP tp n p))) + w))]) dX7_fail_19 fX7_28 (hR.ok) (Nat.le_of_ble_eq_true rfl) rfl rfl rfl ?_
    refine x_aload_n dX7_fail_22 0 rfl ?_
    refine x_aload_n dX7_fail_23 0 rfl ?_
    refine x_get dX7_fail_24 fX7_21 (xup_eq) rfl ?_
    refine x_put (fs' := [.ref tx, .int (nI n), .int (nI n), .int (nI (kdA tp n (skP tp n p))), .int (nI (skP tp n p)), .int (nI (sgA tp n (skP tp n p))), .int (nmA tp n (skP tp n p)), .int (nI ((1 + (8 * (skP tp n p))) + w))]) dX7_fail_27 fX7_25 (xup_eq) (Nat.le_of_ble_eq_true rfl) rfl rfl rfl ?_
    refine x_geq xup_up ?_
    refine x_aload_n dX7_fail_30 0 rfl ?_
    refine x_iconst dX7_fail_31 ki_4 ?_
    refine x_pc (pc' := 32) rfl ?_
    refine x_put (fs' := [.ref tx, .int (nI n), .int (nI n), .int (nI 4), .int (nI (skP tp n p)), .int (nI (sgA tp n (skP tp n p))), .int (nmA tp n (skP tp n p)), .int (nI ((1 + (8 * (skP tp n p))) + w))]) dX7_fail_32 fX7_43 (xup_eq) (Nat.le_of_ble_eq_true rfl) rfl rfl rfl ?_
    refine x_geq xup_up ?_
    exact x_vret dX7_fail_35 rfl (xEx_i _ ⟨⟨a1, a2, xup_of (Ne.symm hbt) a3, a4, Or.inr ⟨(flP_lt (f := 0) a1 a2 (by decide) hw).2, (flP_lt (f := 0) a1 a2 (by decide) hw).1, _, _, _, xup_eq⟩⟩, Fr.rf.up1 (by omega) (by omega)⟩ rfl rfl rfl)
theorem Rd_fail_b {K : xG} {h b tx n : Nat} {G : xHp} {tp : Nat → Nat} {f p : Nat} {w : Nat} (hR : RdAt G b tx n tp f p) (hbt : b ≠ tx) (hw : w < 8) (hf : f ≠ 0) : xCall K mX7_fail 0 0 0 [.ref b, .int (nI w)] h G (rdQ G h b tx n tp none (flP tp n f p w) p) := by
  refine x_entry (by decide) (ls := [(0, .ref b), (1, .int (nI w))]) rfl (Nat.le_of_ble_eq_true rfl) ?_
  obtain ⟨a1, a2, a3, a4, -⟩ := id hR
  have hfl := hR.f_lt
  obtain ⟨pl, sg, nm, hb⟩ := hR.bad hf
  refine x_aload_n dX7_fail_0 0 rfl ?_
  refine x_get dX7_fail_1 fX7_28 (hb) rfl ?_
  refine x_ifN_ne (tgt := 22) dX7_fail_4 (by decide) (by omega) (fun c4 => ?_) (fun c4 => ?_)
  · refine x_aload_n dX7_fail_22 0 rfl ?_
    refine x_aload_n dX7_fail_23 0 rfl ?_
    refine x_get dX7_fail_24 fX7_21 (hb) rfl ?_
    refine x_put (fs' := [.ref tx, .int (nI n), .int (nI n), .int (nI 4), .int pl, .int sg, .int nm, .int (nI f)]) dX7_fail_27 fX7_25 (hb) (Nat.le_of_ble_eq_true rfl) rfl rfl rfl ?_
    refine x_aload_n dX7_fail_30 0 rfl ?_
    refine x_iconst dX7_fail_31 ki_4 ?_
    refine x_pc (pc' := 32) rfl ?_
    refine x_put (fs' := [.ref tx, .int (nI n), .int (nI n), .int (nI 4), .int pl, .int sg, .int nm, .int (nI f)]) dX7_fail_32 fX7_43 (xup_eq) (Nat.le_of_ble_eq_true rfl) rfl rfl rfl ?_
    refine x_geq xup_up ?_
    exact x_vret dX7_fail_35 rfl (xEx_i _ ⟨by rw [show flP tp n f p w = f from if_neg hf]; exact ⟨a1, a2, xup_of (Ne.symm hbt) a3, a4, Or.inr ⟨by omega, hfl, pl, sg, nm, xup_eq⟩⟩, Fr.rf.up1 (by omega) (by omega)⟩ rfl rfl rfl)
  · exact absurd c4 hf
theorem Rd_fail {K : xG} {h b tx n : Nat} {G : xHp} {tp : Nat → Nat} {f p : Nat} {w : Nat} (hR : RdAt G b tx n tp f p) (hbt : b ≠ tx) (hw : w < 8) : xCall K mX7_fail 0 0 0 [.ref b, .int (nI w)] h G (rdQ G h b tx n tp none (flP tp n f p w) p) := by
  by_cases hf : f = 0
  · subst hf; exact Rd_fail_o hR hbt hw
  · exact Rd_fail_b hR hbt hw hf
theorem Rd_expectEnd_o {K : xG} {h b tx n : Nat} {G : xHp} {tp : Nat → Nat} {p : Nat} (hR : RdAt G b tx n tp 0 p) (hbt : b ≠ tx) : xCall K mX7_expectEnd 1 0 0 [.ref b] h G (rdQ G h b tx n tp none (eeP tp n 0 p) p) := by
  refine x_entry (by decide) (ls := [(0, .ref b)]) rfl (Nat.le_of_ble_eq_true rfl) ?_
  obtain ⟨a1, a2, a3, a4, -⟩ := id hR
  have s1 := sk_le (tp := tp) a2
  have s2 := at_le (tp := tp) s1.2
  have s3 := kd_lt tp n (skP tp n p)
  have s4 := sg_lt a4 n (skP tp n p)
  refine x_aload_n dX7_expectEnd_0 0 rfl ?_
  refine x_get dX7_expectEnd_1 fX7_43 (hR.ok) rfl ?_
  refine x_ifN_eq (tgt := 12) dX7_expectEnd_4 (by decide) (by omega) (fun c4 => ?_) (fun c4 => ?_)
  · exact x_vret dX7_expectEnd_12 rfl (xEx_i G ⟨by rw [show eeP tp n 0 p = 0 from if_pos ⟨rfl, c4⟩]; exact hR, Fr.rf⟩ rfl rfl rfl)
  · refine x_aload_n dX7_expectEnd_7 0 rfl ?_
    refine x_iconst dX7_expectEnd_8 ki_0 ?_
    refine x_cVe (N := mX7_fail) (d' := 0) (mc := 0) (ms := 0) (cb := 0) (sb := 0) (As := [.int (nI 0)]) (st := []) dX7_expectEnd_9 mX7_fail_v lX7_46 rfl rfl (hR.ok) rfl (by decide) (Nat.le_of_ble_eq_true rfl) (Rd_fail hR hbt (by decide)) rfl (sf := fun G1 => []) (fun _ => rfl) (fun G1 hq1 => ?_)
    exact x_vret dX7_expectEnd_12 rfl (xEx_i G1 (by rw [show eeP tp n 0 p = flP tp n 0 p 0 from if_neg (fun q => c4 q.2)]; exact hq1) rfl rfl rfl)
theorem Rd_expectEnd_b {K : xG} {h b tx n : Nat} {G : xHp} {tp : Nat → Nat} {f p : Nat} (hR : RdAt G b tx n tp f p) (hbt : b ≠ tx) (hf : f ≠ 0) : xCall K mX7_expectEnd 1 0 0 [.ref b] h G (rdQ G h b tx n tp none (eeP tp n f p) p) := by
  refine x_entry (by decide) (ls := [(0, .ref b)]) rfl (Nat.le_of_ble_eq_true rfl) ?_
  obtain ⟨a1, a2, a3, a4, -⟩ := id hR
  have hfl := hR.f_lt
  obtain ⟨pl, sg, nm, hb⟩ := hR.bad hf
  refine x_aload_n dX7_expectEnd_0 0 rfl ?_
  refine x_get dX7_expectEnd_1 fX7_43 (hb) rfl ?_
  refine x_ifN_eq (tgt := 12) dX7_expectEnd_4 (by decide) (by omega) (fun c4 => ?_) (fun c4 => ?_)
  · exact absurd c4 (by decide)
  · refine x_aload_n dX7_expectEnd_7 0 rfl ?_
    refine x_iconst dX7_expectEnd_8 ki_0 ?_
    refine x_cVe (N := mX7_fail) (d' := 0) (mc := 0) (ms := 0) (cb := 0) (sb := 0) (As := [.int (nI 0)]) (st := []) dX7_expectEnd_9 mX7_fail_v lX7_46 rfl rfl (hb) rfl (by decide) (Nat.le_of_ble_eq_true rfl) (Rd_fail hR hbt (by decide)) rfl (sf := fun G1 => []) (fun _ => rfl) (fun G1 hq1 => ?_)
    exact x_vret dX7_expectEnd_12 rfl (xEx_i G1 (by rw [show eeP tp n f p = flP tp n f p 0 from if_neg (fun q => hf q.1)]; exact hq1) rfl rfl rfl)
theorem Rd_expectEnd {K : xG} {h b tx n : Nat} {G : xHp} {tp : Nat → Nat} {f p : Nat} (hR : RdAt G b tx n tp f p) (hbt : b ≠ tx) : xCall K mX7_expectEnd 1 0 0 [.ref b] h G (rdQ G h b tx n tp none (eeP tp n f p) p) := by
  by_cases hf : f = 0
  · subst hf; exact Rd_expectEnd_o hR hbt 
  · exact Rd_expectEnd_b hR hbt  hf
theorem Rd_isSign_o {K : xG} {h b tx n : Nat} {G : xHp} {tp : Nat → Nat} {p : Nat} {c : Nat} (hR : RdAt G b tx n tp 0 p) (hbt : b ≠ tx) (hc : c < 1000) : xCall K mX7_isSign 0 0 0 [.ref b, .int (nI c)] h G (xRet (some (.int (bI (isS tp n 0 p c)))) h G) := by
  refine x_entry (by decide) (ls := [(0, .ref b), (1, .int (nI c))]) rfl (Nat.le_of_ble_eq_true rfl) ?_
  obtain ⟨a1, a2, a3, a4, -⟩ := id hR
  have s1 := sk_le (tp := tp) a2
  have s2 := at_le (tp := tp) s1.2
  have s3 := kd_lt tp n (skP tp n p)
  have s4 := sg_lt a4 n (skP tp n p)
  refine x_aload_n dX7_isSign_0 0 rfl ?_
  refine x_get dX7_isSign_1 fX7_43 (hR.ok) rfl ?_
  refine x_iconst dX7_isSign_4 ki_3 ?_
  refine x_icmpN_ne (tgt := 20) dX7_isSign_5 (by decide) (by omega) (by omega) (fun c5 => ?_) (fun c5 => ?_)
  · refine x_iconst dX7_isSign_20 ki_0 ?_
    exact x_zret dX7_isSign_21 rfl (by first | rfl | decide | exact bI_nar _) (xRet_e (by rw [isS_f (fun q => c5 q.2.1)]; rfl) rfl)
  · refine x_aload_n dX7_isSign_8 0 rfl ?_
    refine x_get dX7_isSign_9 fX7_37 (hR.ok) rfl ?_
    refine x_iload_n dX7_isSign_12 1 rfl ?_
    refine x_icmpN_ne (tgt := 20) dX7_isSign_13 (by decide) (by omega) (by omega) (fun c13 => ?_) (fun c13 => ?_)
    · refine x_iconst dX7_isSign_20 ki_0 ?_
      refine x_pc (pc' := 21) rfl ?_
      exact x_zret dX7_isSign_21 rfl (by first | rfl | decide | exact bI_nar _) (xRet_e (by rw [isS_f (fun q => c13 q.2.2)]; rfl) rfl)
    · refine x_iconst dX7_isSign_16 ki_1 ?_
      refine x_pc (pc' := 17) rfl ?_
      refine x_goto (tgt := 21) dX7_isSign_17 (by decide) ?_
      exact x_zret dX7_isSign_21 rfl (by first | rfl | decide | exact bI_nar _) (xRet_e (by rw [isS_t c5 c13]; rfl) rfl)
theorem Rd_isSign_b {K : xG} {h b tx n : Nat} {G : xHp} {tp : Nat → Nat} {f p : Nat} {c : Nat} (hR : RdAt G b tx n tp f p) (hbt : b ≠ tx) (hc : c < 1000) (hf : f ≠ 0) : xCall K mX7_isSign 0 0 0 [.ref b, .int (nI c)] h G (xRet (some (.int (bI (isS tp n f p c)))) h G) := by
  refine x_entry (by decide) (ls := [(0, .ref b), (1, .int (nI c))]) rfl (Nat.le_of_ble_eq_true rfl) ?_
  obtain ⟨a1, a2, a3, a4, -⟩ := id hR
  have hfl := hR.f_lt
  obtain ⟨pl, sg, nm, hb⟩ := hR.bad hf
  refine x_aload_n dX7_isSign_0 0 rfl ?_
  refine x_get dX7_isSign_1 fX7_43 (hb) rfl ?_
  refine x_iconst dX7_isSign_4 ki_3 ?_
  refine x_icmpN_ne (tgt := 20) dX7_isSign_5 (by decide) (by omega) (by omega) (fun c5 => ?_) (fun c5 => ?_)
  · refine x_iconst dX7_isSign_20 ki_0 ?_
    exact x_zret dX7_isSign_21 rfl (by first | rfl | decide | exact bI_nar _) (xRet_e (by rw [isS_f (fun q => hf q.1)]; rfl) rfl)
  · exact absurd c5 (by decide)
theorem Rd_isSign {K : xG} {h b tx n : Nat} {G : xHp} {tp : Nat → Nat} {f p : Nat} {c : Nat} (hR : RdAt G b tx n tp f p) (hbt : b ≠ tx) (hc : c < 1000) : xCall K mX7_isSign 0 0 0 [.ref b, .int (nI c)] h G (xRet (some (.int (bI (isS tp n f p c)))) h G) := by
  by_cases hf : f = 0
  · subst hf; exact Rd_isSign_o hR hbt hc
  · exact Rd_isSign_b hR hbt hc hf
theorem Rd_word_loop {K : xG} {h b tx n : Nat} {G : xHp} {tp : Nat → Nat} {p : Nat} {si : Nat} {R : Option Nat} (hR : RdAt G b tx n tp 0 p) (hbt : b ≠ tx) (hi : si < xs_n) : ∀ (rest : List Nat) (m w i : Nat) (s : Bool), (wl si).drop m = rest → m ≤ (wl si).length → i ≤ m → w ≤ m → wiF (fun i => tp (skP tp n p + i)) (atA tp n (skP tp n p) - (skP tp n p)) rest w i s = R → xV K mX7_wordIn 4 0 0 h G 31 [(6, .int (nI m)), (5, .int (bI s)), (4, .int (nI i)), (3, .int (nI w)), (2, .int (nI (atA tp n (skP tp n p) - (skP tp n p)))), (0, .ref b), (1, .ref (K.2.2.2.2.1 si))] [] (xRet (some (.int (chI R))) h G) := by
  obtain ⟨a1, a2, a3, a4, -⟩ := id hR
  have s1 := sk_le (tp := tp) a2
  have s2 := at_le (tp := tp) s1.2
  have hsl := xs_len_lt si
  have hwl := wl_len si
  intro rest
  induction rest with
  | nil =>
    intro m w i s hd hm him hwm hR0
    have hml := drop_nil hd hm
    refine x_iload dX7_wordIn_31 0 rfl ?_
    refine x_aload_n dX7_wordIn_33 6 rfl ?_
    refine x_cVS (i := si) (N := mJ0_length_8abf5) (d' := 1) (mc := 0) (ms := 0) (cb := 0) (sb := 0) (As := []) (st := [.int (nI m)]) hi dX7_wordIn_34 mJ0_length_8abf5_v rfl lX7_54 rfl (by decide) (Nat.le_of_ble_eq_true rfl) (Str_length hi) rfl (st1 := [.int (nI ((xs_byt si).length)), .int (nI m)]) rfl ?_
    refine x_icmpN_gt (tgt := 133) dX7_wordIn_37 (by decide) (by omega) (by omega) (fun c37 => ?_) (fun c37 => ?_)
    · exact absurd c37 (by omega)
    · refine x_iload dX7_wordIn_40 0 rfl ?_
      refine x_aload_n dX7_wordIn_42 6 rfl ?_
      refine x_cVS (i := si) (N := mJ0_length_8abf5) (d' := 1) (mc := 0) (ms := 0) (cb := 0) (sb := 0) (As := []) (st := [.int (nI m)]) hi dX7_wordIn_43 mJ0_length_8abf5_v rfl lX7_54 rfl (by decide) (Nat.le_of_ble_eq_true rfl) (Str_length hi) rfl (st1 := [.int (nI ((xs_byt si).length)), .int (nI m)]) rfl ?_
      refine x_icmpN_ge (tgt := 105) dX7_wordIn_46 (by decide) (by omega) (by omega) (fun c46 => ?_) (fun c46 => ?_)
      · refine x_iload dX7_wordIn_105 1 rfl ?_
        refine x_pc (pc' := 107) rfl ?_
        refine x_ifB_eq (tgt := 118) dX7_wordIn_107 (by decide) (fun c107 => ?_) (fun c107 => ?_)
        · refine x_iinc (v := nI (w + 1)) (ls' := [(3, .int (nI (w + 1))), (6, .int (nI m)), (5, .int (bI s)), (4, .int (nI i)), (2, .int (nI (atA tp n (skP tp n p) - (skP tp n p)))), (0, .ref b), (1, .ref (K.2.2.2.2.1 si))]) dX7_wordIn_118 3 rfl (nIs _) (by decide) rfl ?_
          refine x_iconst dX7_wordIn_121 ki_0 ?_
          refine x_istore (ls' := [(4, .int (nI 0)), (3, .int (nI (w + 1))), (6, .int (nI m)), (5, .int (bI s)), (2, .int (nI (atA tp n (skP tp n p) - (skP tp n p)))), (0, .ref b), (1, .ref (K.2.2.2.2.1 si))]) dX7_wordIn_122 (by decide) rfl ?_
          refine x_iconst dX7_wordIn_124 ki_1 ?_
          refine x_istore (ls' := [(5, .int (nI 1)), (4, .int (nI 0)), (3, .int (nI (w + 1))), (6, .int (nI m)), (2, .int (nI (atA tp n (skP tp n p) - (skP tp n p)))), (0, .ref b), (1, .ref (K.2.2.2.2.1 si))]) dX7_wordIn_125 (by decide) rfl ?_
          refine x_iinc (v := nI (m + 1)) (ls' := [(6, .int (nI (m + 1))), (5, .int (nI 1)), (4, .int (nI 0)), (3, .int (nI (w + 1))), (2, .int (nI (atA tp n (skP tp n p) - (skP tp n p)))), (0, .ref b), (1, .ref (K.2.2.2.2.1 si))]) dX7_wordIn_127 3 rfl (nIs _) (by decide) rfl ?_
          refine x_goto (tgt := 31) dX7_wordIn_130 (by decide) ?_
          refine x_iload dX7_wordIn_31 0 rfl ?_
          refine x_aload_n dX7_wordIn_33 6 rfl ?_
          refine x_pc (pc' := 34) rfl ?_
          refine x_cVS (i := si) (N := mJ0_length_8abf5) (d' := 1) (mc := 0) (ms := 0) (cb := 0) (sb := 0) (As := []) (st := [.int (nI (m + 1))]) hi dX7_wordIn_34 mJ0_length_8abf5_v rfl lX7_54 rfl (by decide) (Nat.le_of_ble_eq_true rfl) (Str_length hi) rfl (st1 := [.int (nI ((xs_byt si).length)), .int (nI (m + 1))]) rfl ?_
          refine x_icmpN_gt (tgt := 133) dX7_wordIn_37 (by decide) (by omega) (by omega) (fun c37 => ?_) (fun c37 => ?_)
          · refine x_iconst dX7_wordIn_133 ki_m1 ?_
            exact x_iret dX7_wordIn_134 rfl (xRet_e (by rw [← hR0]; simp only [wiF]; rw [if_neg (fun q => absurd (q.1.symm.trans c107) (by decide))]; rfl) rfl)
          · exact absurd c37 (by omega)
        · refine x_iload dX7_wordIn_110 2 rfl ?_
          refine x_iload_n dX7_wordIn_112 4 rfl ?_
          refine x_icmpN_ne (tgt := 118) dX7_wordIn_113 (by decide) (by omega) (by omega) (fun c113 => ?_) (fun c113 => ?_)
          · refine x_iinc (v := nI (w + 1)) (ls' := [(3, .int (nI (w + 1))), (6, .int (nI m)), (5, .int (bI s)), (4, .int (nI i)), (2, .int (nI (atA tp n (skP tp n p) - (skP tp n p)))), (0, .ref b), (1, .ref (K.2.2.2.2.1 si))]) dX7_wordIn_118 3 rfl (nIs _) (by decide) rfl ?_
            refine x_iconst dX7_wordIn_121 ki_0 ?_
            refine x_istore (ls' := [(4, .int (nI 0)), (3, .int (nI (w + 1))), (6, .int (nI m)), (5, .int (bI s)), (2, .int (nI (atA tp n (skP tp n p) - (skP tp n p)))), (0, .ref b), (1, .ref (K.2.2.2.2.1 si))]) dX7_wordIn_122 (by decide) rfl ?_
            refine x_iconst dX7_wordIn_124 ki_1 ?_
            refine x_istore (ls' := [(5, .int (nI 1)), (4, .int (nI 0)), (3, .int (nI (w + 1))), (6, .int (nI m)), (2, .int (nI (atA tp n (skP tp n p) - (skP tp n p)))), (0, .ref b), (1, .ref (K.2.2.2.2.1 si))]) dX7_wordIn_125 (by decide) rfl ?_
            refine x_iinc (v := nI (m + 1)) (ls' := [(6, .int (nI (m + 1))), (5, .int (nI 1)), (4, .int (nI 0)), (3, .int (nI (w + 1))), (2, .int (nI (atA tp n (skP tp n p) - (skP tp n p)))), (0, .ref b), (1, .ref (K.2.2.2.2.1 si))]) dX7_wordIn_127 3 rfl (nIs _) (by decide) rfl ?_
            refine x_pc (pc' := 130) rfl ?_
            refine x_goto (tgt := 31) dX7_wordIn_130 (by decide) ?_
            refine x_iload dX7_wordIn_31 0 rfl ?_
            refine x_aload_n dX7_wordIn_33 6 rfl ?_
            refine x_cVS (i := si) (N := mJ0_length_8abf5) (d' := 1) (mc := 0) (ms := 0) (cb := 0) (sb := 0) (As := []) (st := [.int (nI (m + 1))]) hi dX7_wordIn_34 mJ0_length_8abf5_v rfl lX7_54 rfl (by decide) (Nat.le_of_ble_eq_true rfl) (Str_length hi) rfl (st1 := [.int (nI ((xs_byt si).length)), .int (nI (m + 1))]) rfl ?_
            refine x_icmpN_gt (tgt := 133) dX7_wordIn_37 (by decide) (by omega) (by omega) (fun c37 => ?_) (fun c37 => ?_)
            · refine x_iconst dX7_wordIn_133 ki_m1 ?_
              exact x_iret dX7_wordIn_134 rfl (xRet_e (by rw [← hR0]; simp only [wiF]; rw [if_neg (fun q => c113 q.2)]; rfl) rfl)
            · exact absurd c37 (by omega)
          · refine x_iload_n dX7_wordIn_116 3 rfl ?_
            exact x_iret dX7_wordIn_117 rfl (xRet_e (by rw [← hR0]; simp only [wiF]; rw [if_pos ⟨c107, c113⟩]; rfl) rfl)
      · exact absurd c46 (by omega)
  | cons c cs ih =>
    intro m w i s hd hm him hwm hR0
    obtain ⟨hm1, hg, hd1⟩ := drop_get hd
    obtain ⟨hx1, hx2⟩ := wl_ch si hi m (by omega)
    rw [hg] at hx1 hx2
    refine x_iload dX7_wordIn_31 0 rfl ?_
    refine x_aload_n dX7_wordIn_33 6 rfl ?_
    refine x_cVS (i := si) (N := mJ0_length_8abf5) (d' := 1) (mc := 0) (ms := 0) (cb := 0) (sb := 0) (As := []) (st := [.int (nI m)]) hi dX7_wordIn_34 mJ0_length_8abf5_v rfl lX7_54 rfl (by decide) (Nat.le_of_ble_eq_true rfl) (Str_length hi) rfl (st1 := [.int (nI ((xs_byt si).length)), .int (nI m)]) rfl ?_
    refine x_icmpN_gt (tgt := 133) dX7_wordIn_37 (by decide) (by omega) (by omega) (fun c37 => ?_) (fun c37 => ?_)
    · exact absurd c37 (by omega)
    · refine x_iload dX7_wordIn_40 0 rfl ?_
      refine x_aload_n dX7_wordIn_42 6 rfl ?_
      refine x_cVS (i := si) (N := mJ0_length_8abf5) (d' := 1) (mc := 0) (ms := 0) (cb := 0) (sb := 0) (As := []) (st := [.int (nI m)]) hi dX7_wordIn_43 mJ0_length_8abf5_v rfl lX7_54 rfl (by decide) (Nat.le_of_ble_eq_true rfl) (Str_length hi) rfl (st1 := [.int (nI ((xs_byt si).length)), .int (nI m)]) rfl ?_
      refine x_icmpN_ge (tgt := 105) dX7_wordIn_46 (by decide) (by omega) (by omega) (fun c46 => ?_) (fun c46 => ?_)
      · exact absurd c46 (by omega)
      · refine x_aload_n dX7_wordIn_49 6 rfl ?_
        refine x_pc (pc' := 50) rfl ?_
        refine x_iload dX7_wordIn_50 0 rfl ?_
        refine x_cVS (i := si) (N := mJ0_charAt_5068e) (d' := 3) (mc := 0) (ms := 0) (cb := 0) (sb := 0) (As := [.int (nI m)]) (st := []) hi dX7_wordIn_52 mJ0_charAt_5068e_v rfl lX7_59 rfl (by decide) (Nat.le_of_ble_eq_true rfl) (Str_charAt hi (by omega)) rfl (st1 := [.int (xs_ch si m)]) rfl ?_
        refine x_topi (y := nI c) hx1 ?_
        refine x_bipush dX7_wordIn_55 kb_32 ?_
        refine x_icmpN_eq (tgt := 105) dX7_wordIn_57 (by decide) (by omega) (by omega) (fun c57 => ?_) (fun c57 => ?_)
        · refine x_iload dX7_wordIn_105 1 rfl ?_
          refine x_ifB_eq (tgt := 118) dX7_wordIn_107 (by decide) (fun c107 => ?_) (fun c107 => ?_)
          · refine x_iinc (v := nI (w + 1)) (ls' := [(3, .int (nI (w + 1))), (6, .int (nI m)), (5, .int (bI s)), (4, .int (nI i)), (2, .int (nI (atA tp n (skP tp n p) - (skP tp n p)))), (0, .ref b), (1, .ref (K.2.2.2.2.1 si))]) dX7_wordIn_118 3 rfl (nIs _) (by decide) rfl ?_
            refine x_iconst dX7_wordIn_121 ki_0 ?_
            refine x_istore (ls' := [(4, .int (nI 0)), (3, .int (nI (w + 1))), (6, .int (nI m)), (5, .int (bI s)), (2, .int (nI (atA tp n (skP tp n p) - (skP tp n p)))), (0, .ref b), (1, .ref (K.2.2.2.2.1 si))]) dX7_wordIn_122 (by decide) rfl ?_
            refine x_iconst dX7_wordIn_124 ki_1 ?_
            refine x_pc (pc' := 125) rfl ?_
            refine x_istore (ls' := [(5, .int (nI 1)), (4, .int (nI 0)), (3, .int (nI (w + 1))), (6, .int (nI m)), (2, .int (nI (atA tp n (skP tp n p) - (skP tp n p)))), (0, .ref b), (1, .ref (K.2.2.2.2.1 si))]) dX7_wordIn_125 (by decide) rfl ?_
            refine x_iinc (v := nI (m + 1)) (ls' := [(6, .int (nI (m + 1))), (5, .int (nI 1)), (4, .int (nI 0)), (3, .int (nI (w + 1))), (2, .int (nI (atA tp n (skP tp n p) - (skP tp n p)))), (0, .ref b), (1, .ref (K.2.2.2.2.1 si))]) dX7_wordIn_127 3 rfl (nIs _) (by decide) rfl ?_
            refine x_goto (tgt := 31) dX7_wordIn_130 (by decide) ?_
            exact ih (m + 1) (w + 1) 0 true hd1 (by omega) (by omega) (by omega) (by rw [← hR0]; simp only [wiF]; rw [if_pos c57, if_neg (fun q => absurd (q.1.symm.trans c107) (by decide))])
          · refine x_iload dX7_wordIn_110 2 rfl ?_
            refine x_iload_n dX7_wordIn_112 4 rfl ?_
            refine x_icmpN_ne (tgt := 118) dX7_wordIn_113 (by decide) (by omega) (by omega) (fun c113 => ?_) (fun c113 => ?_)
            · refine x_iinc (v := nI (w + 1)) (ls' := [(3, .int (nI (w + 1))), (6, .int (nI m)), (5, .int (bI s)), (4, .int (nI i)), (2, .int (nI (atA tp n (skP tp n p) - (skP tp n p)))), (0, .ref b), (1, .ref (K.2.2.2.2.1 si))]) dX7_wordIn_118 3 rfl (nIs _) (by decide) rfl ?_
              refine x_pc (pc' := 121) rfl ?_
              refine x_iconst dX7_wordIn_121 ki_0 ?_
              refine x_istore (ls' := [(4, .int (nI 0)), (3, .int (nI (w + 1))), (6, .int (nI m)), (5, .int (bI s)), (2, .int (nI (atA tp n (skP tp n p) - (skP tp n p)))), (0, .ref b), (1, .ref (K.2.2.2.2.1 si))]) dX7_wordIn_122 (by decide) rfl ?_
              refine x_iconst dX7_wordIn_124 ki_1 ?_
              refine x_istore (ls' := [(5, .int (nI 1)), (4, .int (nI 0)), (3, .int (nI (w + 1))), (6, .int (nI m)), (2, .int (nI (atA tp n (skP tp n p) - (skP tp n p)))), (0, .ref b), (1, .ref (K.2.2.2.2.1 si))]) dX7_wordIn_125 (by decide) rfl ?_
              refine x_iinc (v := nI (m + 1)) (ls' := [(6, .int (nI (m + 1))), (5, .int (nI 1)), (4, .int (nI 0)), (3, .int (nI (w + 1))), (2, .int (nI (atA tp n (skP tp n p) - (skP tp n p)))), (0, .ref b), (1, .ref (K.2.2.2.2.1 si))]) dX7_wordIn_127 3 rfl (nIs _) (by decide) rfl ?_
              refine x_goto (tgt := 31) dX7_wordIn_130 (by decide) ?_
              exact ih (m + 1) (w + 1) 0 true hd1 (by omega) (by omega) (by omega) (by rw [← hR0]; simp only [wiF]; rw [if_pos c57, if_neg (fun q => c113 q.2)])
            · refine x_iload_n dX7_wordIn_116 3 rfl ?_
              refine x_pc (pc' := 117) rfl ?_
              exact x_iret dX7_wordIn_117 rfl (xRet_e (by rw [← hR0]; simp only [wiF]; rw [if_pos c57, if_pos ⟨c107, c113⟩]; rfl) rfl)
        · refine x_iload dX7_wordIn_60 1 rfl ?_
          refine x_ifB_eq (tgt := 96) dX7_wordIn_62 (by decide) (fun c62 => ?_) (fun c62 => ?_)
          · refine x_iconst dX7_wordIn_96 ki_0 ?_
            refine x_istore (ls' := [(5, .int (nI 0)), (6, .int (nI m)), (4, .int (nI i)), (3, .int (nI w)), (2, .int (nI (atA tp n (skP tp n p) - (skP tp n p)))), (0, .ref b), (1, .ref (K.2.2.2.2.1 si))]) dX7_wordIn_97 (by decide) rfl ?_
            refine x_iinc (v := nI (i + 1)) (ls' := [(4, .int (nI (i + 1))), (5, .int (nI 0)), (6, .int (nI m)), (3, .int (nI w)), (2, .int (nI (atA tp n (skP tp n p) - (skP tp n p)))), (0, .ref b), (1, .ref (K.2.2.2.2.1 si))]) dX7_wordIn_99 2 rfl (nIs _) (by decide) rfl ?_
            refine x_goto (tgt := 127) dX7_wordIn_102 (by decide) ?_
            refine x_pc (pc' := 127) rfl ?_
            refine x_iinc (v := nI (m + 1)) (ls' := [(6, .int (nI (m + 1))), (4, .int (nI (i + 1))), (5, .int (nI 0)), (3, .int (nI w)), (2, .int (nI (atA tp n (skP tp n p) - (skP tp n p)))), (0, .ref b), (1, .ref (K.2.2.2.2.1 si))]) dX7_wordIn_127 2 rfl (nIs _) (by decide) rfl ?_
            refine x_goto (tgt := 31) dX7_wordIn_130 (by decide) ?_
            refine x_perm (ls' := [(6, .int (nI (m + 1))), (5, .int (nI 0)), (4, .int (nI (i + 1))), (3, .int (nI w)), (2, .int (nI (atA tp n (skP tp n p) - (skP tp n p)))), (0, .ref b), (1, .ref (K.2.2.2.2.1 si))]) [0, 2, 1, 3, 4, 5, 6] rfl ?_
            refine x_leq (ls' := [(6, .int (nI (m + 1))), (5, .int (bI false)), (4, .int (nI (i + 1))), (3, .int (nI w)), (2, .int (nI (atA tp n (skP tp n p) - (skP tp n p)))), (0, .ref b), (1, .ref (K.2.2.2.2.1 si))]) rfl ?_
            exact ih (m + 1) w (i + 1) false hd1 (by omega) (by omega) (by omega) (by rw [← hR0]; simp only [wiF]; rw [if_neg c57]; congr 1; rw [c62]; rfl)
          · refine x_iload dX7_wordIn_65 2 rfl ?_
            refine x_iload_n dX7_wordIn_67 4 rfl ?_
            refine x_icmpN_ge (tgt := 96) dX7_wordIn_68 (by decide) (by omega) (by omega) (fun c68 => ?_) (fun c68 => ?_)
            · refine x_iconst dX7_wordIn_96 ki_0 ?_
              refine x_pc (pc' := 97) rfl ?_
              refine x_istore (ls' := [(5, .int (nI 0)), (6, .int (nI m)), (4, .int (nI i)), (3, .int (nI w)), (2, .int (nI (atA tp n (skP tp n p) - (skP tp n p)))), (0, .ref b), (1, .ref (K.2.2.2.2.1 si))]) dX7_wordIn_97 (by decide) rfl ?_
              refine x_iinc (v := nI (i + 1)) (ls' := [(4, .int (nI (i + 1))), (5, .int (nI 0)), (6, .int (nI m)), (3, .int (nI w)), (2, .int (nI (atA tp n (skP tp n p) - (skP tp n p)))), (0, .ref b), (1, .ref (K.2.2.2.2.1 si))]) dX7_wordIn_99 2 rfl (nIs _) (by decide) rfl ?_
              refine x_goto (tgt := 127) dX7_wordIn_102 (by decide) ?_
              refine x_iinc (v := nI (m + 1)) (ls' := [(6, .int (nI (m + 1))), (4, .int (nI (i + 1))), (5, .int (nI 0)), (3, .int (nI w)), (2, .int (nI (atA tp n (skP tp n p) - (skP tp n p)))), (0, .ref b), (1, .ref (K.2.2.2.2.1 si))]) dX7_wordIn_127 2 rfl (nIs _) (by decide) rfl ?_
              refine x_goto (tgt := 31) dX7_wordIn_130 (by decide) ?_
              refine x_perm (ls' := [(6, .int (nI (m + 1))), (5, .int (nI 0)), (4, .int (nI (i + 1))), (3, .int (nI w)), (2, .int (nI (atA tp n (skP tp n p) - (skP tp n p)))), (0, .ref b), (1, .ref (K.2.2.2.2.1 si))]) [0, 2, 1, 3, 4, 5, 6] rfl ?_
              refine x_leq (ls' := [(6, .int (nI (m + 1))), (5, .int (bI false)), (4, .int (nI (i + 1))), (3, .int (nI w)), (2, .int (nI (atA tp n (skP tp n p) - (skP tp n p)))), (0, .ref b), (1, .ref (K.2.2.2.2.1 si))]) rfl ?_
              exact ih (m + 1) w (i + 1) false hd1 (by omega) (by omega) (by omega) (by rw [← hR0]; simp only [wiF]; rw [if_neg c57]; congr 1; rw [decide_eq_false (show ¬ i < _ by omega)]; simp)
            · refine x_aload_n dX7_wordIn_71 5 rfl ?_
              refine x_pc (pc' := 72) rfl ?_
              refine x_get dX7_wordIn_72 fX7_9 (hR.ok) rfl ?_
              refine x_aload_n dX7_wordIn_75 5 rfl ?_
              refine x_get dX7_wordIn_76 fX7_34 (hR.ok) rfl ?_
              refine x_iload dX7_wordIn_79 2 rfl ?_
              refine x_iaddN dX7_wordIn_81 ?_
              refine x_ialdN dX7_wordIn_82 (a3) (by omega) (by decide) ?_
              refine x_aload_n dX7_wordIn_83 6 rfl ?_
              refine x_iload dX7_wordIn_84 0 rfl ?_
              refine x_cVS (i := si) (N := mJ0_charAt_5068e) (d' := 3) (mc := 0) (ms := 0) (cb := 0) (sb := 0) (As := [.int (nI m)]) (st := [.int (nI (tp ((skP tp n p) + i)))]) hi dX7_wordIn_86 mJ0_charAt_5068e_v rfl lX7_59 rfl (by decide) (Nat.le_of_ble_eq_true rfl) (Str_charAt hi (by omega)) rfl (st1 := [.int (xs_ch si m), .int (nI (tp ((skP tp n p) + i)))]) rfl ?_
              refine x_topi (y := nI c) hx1 ?_
              have htq := a4 (skP tp n p + i)
              refine x_icmpN_ne (tgt := 96) dX7_wordIn_89 (by decide) (by omega) (by omega) (fun c89 => ?_) (fun c89 => ?_)
              · refine x_pc (pc' := 96) rfl ?_
                refine x_iconst dX7_wordIn_96 ki_0 ?_
                refine x_istore (ls' := [(5, .int (nI 0)), (6, .int (nI m)), (4, .int (nI i)), (3, .int (nI w)), (2, .int (nI (atA tp n (skP tp n p) - (skP tp n p)))), (0, .ref b), (1, .ref (K.2.2.2.2.1 si))]) dX7_wordIn_97 (by decide) rfl ?_
                refine x_iinc (v := nI (i + 1)) (ls' := [(4, .int (nI (i + 1))), (5, .int (nI 0)), (6, .int (nI m)), (3, .int (nI w)), (2, .int (nI (atA tp n (skP tp n p) - (skP tp n p)))), (0, .ref b), (1, .ref (K.2.2.2.2.1 si))]) dX7_wordIn_99 2 rfl (nIs _) (by decide) rfl ?_
                refine x_goto (tgt := 127) dX7_wordIn_102 (by decide) ?_
                refine x_iinc (v := nI (m + 1)) (ls' := [(6, .int (nI (m + 1))), (4, .int (nI (i + 1))), (5, .int (nI 0)), (3, .int (nI w)), (2, .int (nI (atA tp n (skP tp n p) - (skP tp n p)))), (0, .ref b), (1, .ref (K.2.2.2.2.1 si))]) dX7_wordIn_127 2 rfl (nIs _) (by decide) rfl ?_
                refine x_goto (tgt := 31) dX7_wordIn_130 (by decide) ?_
                refine x_perm (ls' := [(6, .int (nI (m + 1))), (5, .int (nI 0)), (4, .int (nI (i + 1))), (3, .int (nI w)), (2, .int (nI (atA tp n (skP tp n p) - (skP tp n p)))), (0, .ref b), (1, .ref (K.2.2.2.2.1 si))]) [0, 2, 1, 3, 4, 5, 6] rfl ?_
                refine x_leq (ls' := [(6, .int (nI (m + 1))), (5, .int (bI false)), (4, .int (nI (i + 1))), (3, .int (nI w)), (2, .int (nI (atA tp n (skP tp n p) - (skP tp n p)))), (0, .ref b), (1, .ref (K.2.2.2.2.1 si))]) rfl ?_
                exact ih (m + 1) w (i + 1) false hd1 (by omega) (by omega) (by omega) (by rw [← hR0]; simp only [wiF]; rw [if_neg c57]; congr 1; rw [decide_eq_false c89]; simp)
              · refine x_pc (pc' := 92) rfl ?_
                refine x_iconst dX7_wordIn_92 ki_1 ?_
                refine x_goto (tgt := 97) dX7_wordIn_93 (by decide) ?_
                refine x_istore (ls' := [(5, .int (nI 1)), (6, .int (nI m)), (4, .int (nI i)), (3, .int (nI w)), (2, .int (nI (atA tp n (skP tp n p) - (skP tp n p)))), (0, .ref b), (1, .ref (K.2.2.2.2.1 si))]) dX7_wordIn_97 (by decide) rfl ?_
                refine x_iinc (v := nI (i + 1)) (ls' := [(4, .int (nI (i + 1))), (5, .int (nI 1)), (6, .int (nI m)), (3, .int (nI w)), (2, .int (nI (atA tp n (skP tp n p) - (skP tp n p)))), (0, .ref b), (1, .ref (K.2.2.2.2.1 si))]) dX7_wordIn_99 2 rfl (nIs _) (by decide) rfl ?_
                refine x_goto (tgt := 127) dX7_wordIn_102 (by decide) ?_
                refine x_iinc (v := nI (m + 1)) (ls' := [(6, .int (nI (m + 1))), (4, .int (nI (i + 1))), (5, .int (nI 1)), (3, .int (nI w)), (2, .int (nI (atA tp n (skP tp n p) - (skP tp n p)))), (0, .ref b), (1, .ref (K.2.2.2.2.1 si))]) dX7_wordIn_127 2 rfl (nIs _) (by decide) rfl ?_
                refine x_goto (tgt := 31) dX7_wordIn_130 (by decide) ?_
                refine x_perm (ls' := [(6, .int (nI (m + 1))), (5, .int (nI 1)), (4, .int (nI (i + 1))), (3, .int (nI w)), (2, .int (nI (atA tp n (skP tp n p) - (skP tp n p)))), (0, .ref b), (1, .ref (K.2.2.2.2.1 si))]) [0, 2, 1, 3, 4, 5, 6] rfl ?_
                refine x_leq (ls' := [(6, .int (nI (m + 1))), (5, .int (bI true)), (4, .int (nI (i + 1))), (3, .int (nI w)), (2, .int (nI (atA tp n (skP tp n p) - (skP tp n p)))), (0, .ref b), (1, .ref (K.2.2.2.2.1 si))]) rfl ?_
                exact ih (m + 1) w (i + 1) true hd1 (by omega) (by omega) (by omega) (by rw [← hR0]; simp only [wiF]; rw [if_neg c57]; congr 1; rw [c62, decide_eq_true c68, decide_eq_true c89]; rfl)
theorem Rd_wordIn_o {K : xG} {h b tx n : Nat} {G : xHp} {tp : Nat → Nat} {p : Nat} {si : Nat} (hR : RdAt G b tx n tp 0 p) (hbt : b ≠ tx) (hi : si < xs_n) : xCall K mX7_wordIn 4 0 0 [.ref b, .ref (K.2.2.2.2.1 si)] h G (xRet (some (.int (chI (wiO tp n 0 p (wl si))))) h G) := by
  refine x_entry (by decide) (ls := [(0, .ref b), (1, .ref (K.2.2.2.2.1 si))]) rfl (Nat.le_of_ble_eq_true rfl) ?_
  obtain ⟨a1, a2, a3, a4, -⟩ := id hR
  have s1 := sk_le (tp := tp) a2
  have s2 := at_le (tp := tp) s1.2
  have s3 := kd_lt tp n (skP tp n p)
  have s4 := sg_lt a4 n (skP tp n p)
  refine x_aload_n dX7_wordIn_0 0 rfl ?_
  refine x_get dX7_wordIn_1 fX7_43 (hR.ok) rfl ?_
  refine x_iconst dX7_wordIn_4 ki_1 ?_
  refine x_icmpN_eq (tgt := 10) dX7_wordIn_5 (by decide) (by omega) (by omega) (fun c5 => ?_) (fun c5 => ?_)
  · refine x_aload_n dX7_wordIn_10 0 rfl ?_
    refine x_get dX7_wordIn_11 fX7_25 (hR.ok) rfl ?_
    refine x_aload_n dX7_wordIn_14 0 rfl ?_
    refine x_get dX7_wordIn_15 fX7_34 (hR.ok) rfl ?_
    refine x_isubN dX7_wordIn_18 (by omega) ?_
    refine x_pc (pc' := 19) rfl ?_
    refine x_istore_n (ls' := [(2, .int (nI ((atA tp n (skP tp n p)) - (skP tp n p)))), (0, .ref b), (1, .ref (K.2.2.2.2.1 si))]) dX7_wordIn_19 (by decide) rfl ?_
    refine x_iconst dX7_wordIn_20 ki_0 ?_
    refine x_istore_n (ls' := [(3, .int (nI 0)), (2, .int (nI ((atA tp n (skP tp n p)) - (skP tp n p)))), (0, .ref b), (1, .ref (K.2.2.2.2.1 si))]) dX7_wordIn_21 (by decide) rfl ?_
    refine x_iconst dX7_wordIn_22 ki_0 ?_
    refine x_istore (ls' := [(4, .int (nI 0)), (3, .int (nI 0)), (2, .int (nI ((atA tp n (skP tp n p)) - (skP tp n p)))), (0, .ref b), (1, .ref (K.2.2.2.2.1 si))]) dX7_wordIn_23 (by decide) rfl ?_
    refine x_iconst dX7_wordIn_25 ki_1 ?_
    refine x_istore (ls' := [(5, .int (nI 1)), (4, .int (nI 0)), (3, .int (nI 0)), (2, .int (nI ((atA tp n (skP tp n p)) - (skP tp n p)))), (0, .ref b), (1, .ref (K.2.2.2.2.1 si))]) dX7_wordIn_26 (by decide) rfl ?_
    refine x_iconst dX7_wordIn_28 ki_0 ?_
    refine x_istore (ls' := [(6, .int (nI 0)), (5, .int (nI 1)), (4, .int (nI 0)), (3, .int (nI 0)), (2, .int (nI ((atA tp n (skP tp n p)) - (skP tp n p)))), (0, .ref b), (1, .ref (K.2.2.2.2.1 si))]) dX7_wordIn_29 (by decide) rfl ?_
    refine x_leq (ls' := [(6, .int (nI 0)), (5, .int (bI true)), (4, .int (nI 0)), (3, .int (nI 0)), (2, .int (nI (atA tp n (skP tp n p) - (skP tp n p)))), (0, .ref b), (1, .ref (K.2.2.2.2.1 si))]) rfl ?_
    exact Rd_word_loop hR hbt hi (wl si) 0 0 0 true rfl (by omega) (by omega) (by omega) (by unfold wiO; rw [if_pos ⟨rfl, c5⟩])
  · refine x_iconst dX7_wordIn_8 ki_m1 ?_
    exact x_iret dX7_wordIn_9 rfl (xRet_e (by unfold wiO; rw [if_neg (fun q => c5 q.2)]; rfl) rfl)
theorem Rd_wordIn_b {K : xG} {h b tx n : Nat} {G : xHp} {tp : Nat → Nat} {f p : Nat} {si : Nat} (hR : RdAt G b tx n tp f p) (hbt : b ≠ tx) (hi : si < xs_n) (hf : f ≠ 0) : xCall K mX7_wordIn 4 0 0 [.ref b, .ref (K.2.2.2.2.1 si)] h G (xRet (some (.int (chI (wiO tp n f p (wl si))))) h G) := by
  refine x_entry (by decide) (ls := [(0, .ref b), (1, .ref (K.2.2.2.2.1 si))]) rfl (Nat.le_of_ble_eq_true rfl) ?_
  obtain ⟨a1, a2, a3, a4, -⟩ := id hR
  have hfl := hR.f_lt
  obtain ⟨pl, sg, nm, hb⟩ := hR.bad hf
  refine x_aload_n dX7_wordIn_0 0 rfl ?_
  refine x_get dX7_wordIn_1 fX7_43 (hb) rfl ?_
  refine x_iconst dX7_wordIn_4 ki_1 ?_
  refine x_icmpN_eq (tgt := 10) dX7_wordIn_5 (by decide) (by omega) (by omega) (fun c5 => ?_) (fun c5 => ?_)
  · exact absurd c5 (by decide)
  · refine x_iconst dX7_wordIn_8 ki_m1 ?_
    exact x_iret dX7_wordIn_9 rfl (xRet_e (by unfold wiO; rw [if_neg (fun q => hf q.1)]; rfl) rfl)
theorem Rd_wordIn {K : xG} {h b tx n : Nat} {G : xHp} {tp : Nat → Nat} {f p : Nat} {si : Nat} (hR : RdAt G b tx n tp f p) (hbt : b ≠ tx) (hi : si < xs_n) : xCall K mX7_wordIn 4 0 0 [.ref b, .ref (K.2.2.2.2.1 si)] h G (xRet (some (.int (chI (wiO tp n f p (wl si))))) h G) := by
  by_cases hf : f = 0
  · subst hf; exact Rd_wordIn_o hR hbt hi
  · exact Rd_wordIn_b hR hbt hi hf
theorem Rd_isWord {K : xG} {h b tx n : Nat} {G : xHp} {tp : Nat → Nat} {f p : Nat} {si : Nat} (hR : RdAt G b tx n tp f p) (hbt : b ≠ tx) (hi : si < xs_n) : xCall K mX7_isWord 5 0 0 [.ref b, .ref (K.2.2.2.2.1 si)] h G (xRet (some (.int (bI (decide (wiO tp n f p (wl si) = some 0))))) h G) := by
  refine x_entry (by decide) (ls := [(0, .ref b), (1, .ref (K.2.2.2.2.1 si))]) rfl (Nat.le_of_ble_eq_true rfl) ?_
  have hwb := wiO_lt tp n f p (wl si)
  have hex : ∃ ce, G b = some (eO 7 ce) := by
    rcases hR.2.2.2.2 with q | ⟨-, -, pl, sg, nm, q⟩
    · exact ⟨_, q.2⟩
    · exact ⟨_, q⟩
  obtain ⟨ce, hce⟩ := hex
  refine x_aload_n dX7_isWord_0 0 rfl ?_
  refine x_aload_n dX7_isWord_1 1 rfl ?_
  refine x_cV (N := mX7_wordIn) (d' := 4) (mc := 0) (ms := 0) (cb := 0) (sb := 0) (As := [.ref (K.2.2.2.2.1 si)]) (st := []) dX7_isWord_2 mX7_wordIn_v lX7_50 rfl rfl (hce) rfl (by decide) (Nat.le_of_ble_eq_true rfl) (Rd_wordIn hR hbt hi) rfl (st1 := [.int (chI (wiO tp n f p (wl si)))]) rfl ?_
  refine x_if_ne (tgt := 12) dX7_isWord_5 (by decide) (fun c5 => ?_) (fun c5 => ?_)
  · refine x_iconst dX7_isWord_12 ki_0 ?_
    exact x_zret dX7_isWord_13 rfl (by first | rfl | decide | exact bI_nar _) (xRet_e (by rw [decide_eq_false (fun q => c5 (by rw [q]; rfl))]; rfl) rfl)
  · refine x_iconst dX7_isWord_8 ki_1 ?_
    refine x_goto (tgt := 13) dX7_isWord_9 (by decide) ?_
    exact x_zret dX7_isWord_13 rfl (by first | rfl | decide | exact bI_nar _) (xRet_e (by rw [decide_eq_true (chI_0 hwb (by have := xs_len_lt si; have := wl_len si; omega) c5)]; rfl) rfl)
theorem Rd_takeNumber_o {K : xG} {h b tx n : Nat} {G : xHp} {tp : Nat → Nat} {p : Nat} {lo hi : Int32} (hR : RdAt G b tx n tp 0 p) (hbt : b ≠ tx) : xCall K mX7_takeNumber 1 0 0 [.ref b, .int lo, .int hi] h G (xEx (fun e : Int32 × xHp => (0 = 0 → e.1 = nmA tp n (skP tp n p)) ∧ RdAt e.2 b tx n tp (tnP tp n 0 p lo hi).1 (tnP tp n 0 p lo hi).2 ∧ Fr G e.2 b 1) (fun e => some (.int e.1)) (fun _ => h) (fun e => e.2)) := by
  refine x_entry (by decide) (ls := [(0, .ref b), (1, .int lo), (2, .int hi)]) rfl (Nat.le_of_ble_eq_true rfl) ?_
  obtain ⟨a1, a2, a3, a4, -⟩ := id hR
  have s1 := sk_le (tp := tp) a2
  have s2 := at_le (tp := tp) s1.2
  have s3 := kd_lt tp n (skP tp n p)
  have s4 := sg_lt a4 n (skP tp n p)
  refine x_aload_n dX7_takeNumber_0 0 rfl ?_
  refine x_get dX7_takeNumber_1 fX7_40 (hR.ok) rfl ?_
  refine x_istore_n (ls' := [(3, .int (nmA tp n (skP tp n p))), (0, .ref b), (1, .int lo), (2, .int hi)]) dX7_takeNumber_4 (by decide) rfl ?_
  refine x_aload_n dX7_takeNumber_5 1 rfl ?_
  refine x_get dX7_takeNumber_6 fX7_43 (hR.ok) rfl ?_
  refine x_iconst dX7_takeNumber_9 ki_2 ?_
  refine x_icmpN_eq (tgt := 21) dX7_takeNumber_10 (by decide) (by omega) (by omega) (fun c10 => ?_) (fun c10 => ?_)
  · refine x_iload_n dX7_takeNumber_21 0 rfl ?_
    refine x_iload_n dX7_takeNumber_22 2 rfl ?_
    refine x_pc (pc' := 23) rfl ?_
    refine x_icmp_lt (x := nmA tp n (skP tp n p)) (y := lo) (tgt := 31) dX7_takeNumber_23 (by decide) (fun c23 => ?_) (fun c23 => ?_)
    · refine x_aload_n dX7_takeNumber_31 1 rfl ?_
      refine x_iconst dX7_takeNumber_32 ki_1 ?_
      refine x_cVe (N := mX7_fail) (d' := 0) (mc := 0) (ms := 0) (cb := 0) (sb := 0) (As := [.int (nI 1)]) (st := []) dX7_takeNumber_33 mX7_fail_v lX7_46 rfl rfl (hR.ok) rfl (by decide) (Nat.le_of_ble_eq_true rfl) (Rd_fail hR hbt (by decide)) rfl (sf := fun G1 => []) (fun _ => rfl) (fun G1 hq1 => ?_)
      refine x_goto (tgt := 43) dX7_takeNumber_36 (by decide) ?_
      refine x_iload_n dX7_takeNumber_43 0 rfl ?_
      exact x_iret dX7_takeNumber_44 rfl (xEx_i (nmA tp n (skP tp n p), G1) ⟨fun _ => rfl, by unfold tnP; rw [if_neg (by decide), if_neg (fun q => q c10), if_pos (Or.inl c23)]; exact hq1.1, hq1.2⟩ rfl rfl rfl)
    · refine x_iload_n dX7_takeNumber_26 0 rfl ?_
      refine x_iload_n dX7_takeNumber_27 3 rfl ?_
      refine x_icmp_le (x := nmA tp n (skP tp n p)) (y := hi) (tgt := 39) dX7_takeNumber_28 (by decide) (fun c28 => ?_) (fun c28 => ?_)
      · refine x_aload_n dX7_takeNumber_39 1 rfl ?_
        refine x_cVe (N := mX7_next) (d' := 0) (mc := 0) (ms := 0) (cb := 0) (sb := 0) (As := []) (st := []) dX7_takeNumber_40 mX7_next_v lX7_31 rfl rfl (hR.ok) rfl (by decide) (Nat.le_of_ble_eq_true rfl) (Rd_next hR hbt) rfl (sf := fun G1 => []) (fun _ => rfl) (fun G1 hq1 => ?_)
        refine x_iload_n dX7_takeNumber_43 0 rfl ?_
        exact x_iret dX7_takeNumber_44 rfl (xEx_i (nmA tp n (skP tp n p), G1) ⟨fun _ => rfl, by unfold tnP; rw [if_neg (by decide), if_neg (fun q => q c10), if_neg (fun q => q.elim c23 (Int32.not_lt.mpr c28))]; exact hq1.1, hq1.2⟩ rfl rfl rfl)
      · refine x_aload_n dX7_takeNumber_31 1 rfl ?_
        refine x_iconst dX7_takeNumber_32 ki_1 ?_
        refine x_cVe (N := mX7_fail) (d' := 0) (mc := 0) (ms := 0) (cb := 0) (sb := 0) (As := [.int (nI 1)]) (st := []) dX7_takeNumber_33 mX7_fail_v lX7_46 rfl rfl (hR.ok) rfl (by decide) (Nat.le_of_ble_eq_true rfl) (Rd_fail hR hbt (by decide)) rfl (sf := fun G1 => []) (fun _ => rfl) (fun G1 hq1 => ?_)
        refine x_goto (tgt := 43) dX7_takeNumber_36 (by decide) ?_
        refine x_iload_n dX7_takeNumber_43 0 rfl ?_
        exact x_iret dX7_takeNumber_44 rfl (xEx_i (nmA tp n (skP tp n p), G1) ⟨fun _ => rfl, by unfold tnP; rw [if_neg (by decide), if_neg (fun q => q c10), if_pos (Or.inr (Int32.not_le.mp c28))]; exact hq1.1, hq1.2⟩ rfl rfl rfl)
  · refine x_aload_n dX7_takeNumber_13 1 rfl ?_
    refine x_iconst dX7_takeNumber_14 ki_0 ?_
    refine x_pc (pc' := 15) rfl ?_
    refine x_cVe (N := mX7_fail) (d' := 0) (mc := 0) (ms := 0) (cb := 0) (sb := 0) (As := [.int (nI 0)]) (st := []) dX7_takeNumber_15 mX7_fail_v lX7_46 rfl rfl (hR.ok) rfl (by decide) (Nat.le_of_ble_eq_true rfl) (Rd_fail hR hbt (by decide)) rfl (sf := fun G1 => []) (fun _ => rfl) (fun G1 hq1 => ?_)
    refine x_goto (tgt := 43) dX7_takeNumber_18 (by decide) ?_
    refine x_iload_n dX7_takeNumber_43 0 rfl ?_
    exact x_iret dX7_takeNumber_44 rfl (xEx_i (nmA tp n (skP tp n p), G1) ⟨fun _ => rfl, by unfold tnP; rw [if_neg (by decide), if_pos c10]; exact hq1.1, hq1.2⟩ rfl rfl rfl)
theorem Rd_takeNumber_b {K : xG} {h b tx n : Nat} {G : xHp} {tp : Nat → Nat} {f p : Nat} {lo hi : Int32} (hR : RdAt G b tx n tp f p) (hbt : b ≠ tx) (hf : f ≠ 0) : xCall K mX7_takeNumber 1 0 0 [.ref b, .int lo, .int hi] h G (xEx (fun e : Int32 × xHp => (f = 0 → e.1 = nmA tp n (skP tp n p)) ∧ RdAt e.2 b tx n tp (tnP tp n f p lo hi).1 (tnP tp n f p lo hi).2 ∧ Fr G e.2 b 1) (fun e => some (.int e.1)) (fun _ => h) (fun e => e.2)) := by
  refine x_entry (by decide) (ls := [(0, .ref b), (1, .int lo), (2, .int hi)]) rfl (Nat.le_of_ble_eq_true rfl) ?_
  obtain ⟨a1, a2, a3, a4, -⟩ := id hR
  have hfl := hR.f_lt
  obtain ⟨pl, sg, nm, hb⟩ := hR.bad hf
  refine x_aload_n dX7_takeNumber_0 0 rfl ?_
  refine x_get dX7_takeNumber_1 fX7_40 (hb) rfl ?_
  refine x_istore_n (ls' := [(3, .int nm), (0, .ref b), (1, .int lo), (2, .int hi)]) dX7_takeNumber_4 (by decide) rfl ?_
  refine x_aload_n dX7_takeNumber_5 1 rfl ?_
  refine x_get dX7_takeNumber_6 fX7_43 (hb) rfl ?_
  refine x_iconst dX7_takeNumber_9 ki_2 ?_
  refine x_icmpN_eq (tgt := 21) dX7_takeNumber_10 (by decide) (by omega) (by omega) (fun c10 => ?_) (fun c10 => ?_)
  · exact absurd c10 (by decide)
  · refine x_aload_n dX7_takeNumber_13 1 rfl ?_
    refine x_iconst dX7_takeNumber_14 ki_0 ?_
    refine x_pc (pc' := 15) rfl ?_
    refine x_cVe (N := mX7_fail) (d' := 0) (mc := 0) (ms := 0) (cb := 0) (sb := 0) (As := [.int (nI 0)]) (st := []) dX7_takeNumber_15 mX7_fail_v lX7_46 rfl rfl (hb) rfl (by decide) (Nat.le_of_ble_eq_true rfl) (Rd_fail hR hbt (by decide)) rfl (sf := fun G1 => []) (fun _ => rfl) (fun G1 hq1 => ?_)
    refine x_goto (tgt := 43) dX7_takeNumber_18 (by decide) ?_
    refine x_iload_n dX7_takeNumber_43 0 rfl ?_
    exact x_iret dX7_takeNumber_44 rfl (xEx_i (nm, G1) ⟨fun q => absurd q hf, by unfold tnP; rw [if_pos hf]; have q := hq1.1; rw [show flP tp n f p 0 = f from if_neg hf] at q; exact q, hq1.2⟩ rfl rfl rfl)
theorem Rd_takeNumber {K : xG} {h b tx n : Nat} {G : xHp} {tp : Nat → Nat} {f p : Nat} {lo hi : Int32} (hR : RdAt G b tx n tp f p) (hbt : b ≠ tx) : xCall K mX7_takeNumber 1 0 0 [.ref b, .int lo, .int hi] h G (xEx (fun e : Int32 × xHp => (f = 0 → e.1 = nmA tp n (skP tp n p)) ∧ RdAt e.2 b tx n tp (tnP tp n f p lo hi).1 (tnP tp n f p lo hi).2 ∧ Fr G e.2 b 1) (fun e => some (.int e.1)) (fun _ => h) (fun e => e.2)) := by
  by_cases hf : f = 0
  · subst hf; exact Rd_takeNumber_o hR hbt 
  · exact Rd_takeNumber_b hR hbt  hf
