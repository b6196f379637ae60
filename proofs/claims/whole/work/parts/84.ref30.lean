theorem PRs_top0 {K : xG} {h y : Nat} {G0 G : xHp} {hl : xHl} {r : xRw} {sc : Nat × Nat × Int32} {A0 : Nat → Nat → Int32} {F : Nat → Int32} {wa sa : Nat → Int64} {tn : Nat} {tp : Nat → Nat} {sl b : Nat} {os : List Nat} {s : xPS} (hR : PRs G0 G y hl r sc A0 F wa sa tn tp sl b 0 ([]) s) (h0 : s.1 = 0) : xCall K mX12_top 0 0 0 [.ref y] h G (xRet (some (.int (-1))) h G) := by
  refine x_entry (by decide) (ls := [(0, .ref y)]) rfl (Nat.le_of_ble_eq_true rfl) ?_
  obtain ⟨hf9, A9, p9, co9, en9, dd9, op9, hM9, hK9, hp9, hc9, hz9⟩ := id hR
  obtain ⟨z1, z2, z3, z4, z5, z6, z7, z8, z9⟩ := hz9 h0
  have z70 : op9 = 0 := z7
  have hop9 : op9 < 100 := by omega
  refine x_aload_n dX12_top_0 0 rfl ?_
  refine x_get (v := .int (nI op9)) dX12_top_1 fX12_258 (hM9.1) rfl ?_
  refine x_ifN_ne (tgt := 11) dX12_top_4 (by decide) (by omega) (fun c4 => ?_) (fun c4 => ?_)
  · exact absurd c4 (by omega)
  · refine x_iconst dX12_top_7 ki_m1 ?_
    refine x_goto (tgt := 22) dX12_top_8 (by decide) ?_
    exact x_iret dX12_top_22 rfl (xRet_i)
theorem PRs_top1 {K : xG} {h y : Nat} {G0 G : xHp} {hl : xHl} {r : xRw} {sc : Nat × Nat × Int32} {A0 : Nat → Nat → Int32} {F : Nat → Int32} {wa sa : Nat → Int64} {tn : Nat} {tp : Nat → Nat} {sl b : Nat} {os : List Nat} {s : xPS} {o dd : Nat} (hR : PRs G0 G y hl r sc A0 F wa sa tn tp sl b dd (o :: os) s) (h0 : s.1 = 0) (hol : os.length < 401) : xCall K mX12_top 0 0 0 [.ref y] h G (xRet (some (.int (nI o))) h G) := by
  refine x_entry (by decide) (ls := [(0, .ref y)]) rfl (Nat.le_of_ble_eq_true rfl) ?_
  obtain ⟨hf9, A9, p9, co9, en9, dd9, op9, hM9, hK9, hp9, hc9, hz9⟩ := id hR
  obtain ⟨z1, z2, z3, z4, z5, z6, z7, z8, z9⟩ := hz9 h0
  have z70 : op9 = os.length + 1 := z7
  have z80 := z8.hd
  subst z70
  refine x_aload_n dX12_top_0 0 rfl ?_
  refine x_get (v := .int (nI (os.length + 1))) dX12_top_1 fX12_258 (hM9.1) rfl ?_
  refine x_ifN_ne (tgt := 11) dX12_top_4 (by decide) (by omega) (fun c4 => ?_) (fun c4 => ?_)
  · refine x_aload_n dX12_top_11 0 rfl ?_
    refine x_get (v := .ref (y + 34)) dX12_top_12 fX12_114 (hM9.1) rfl ?_
    refine x_aload_n dX12_top_15 0 rfl ?_
    refine x_get (v := .int (nI (os.length + 1))) dX12_top_16 fX12_258 (hM9.1) rfl ?_
    refine x_iconst dX12_top_19 ki_1 ?_
    refine x_isubN dX12_top_20 (by omega) ?_
    refine x_topi (y := nI os.length) (by rw [Nat.add_sub_cancel]) ?_
    refine x_pc (pc' := 21) rfl ?_
    refine x_ialdN (n := 402) (f := A9 34) dX12_top_21 (hM9.c34) (by omega) (by decide) ?_
    exact x_iret dX12_top_22 rfl (xRet_e (by rw [z80]) rfl)
  · exact absurd c4 (by omega)
theorem PR_top0 {K : xG} {h y : Nat} {G0 G : xHp} {hl : xHl} {r : xRw} {sc : Nat × Nat × Int32} {A0 : Nat → Nat → Int32} {F : Nat → Int32} {wa sa : Nat → Int64} {tn : Nat} {tp : Nat → Nat} {sl b : Nat} {os : List Nat} {s : xPS} (hR : PR G0 G y hl r sc A0 F wa sa tn tp sl b 0 ([]) s) (h0 : s.1 = 0) : xCall K mX12_top 0 0 0 [.ref y] h G (xRet (some (.int (-1))) h G) := by
  refine x_entry (by decide) (ls := [(0, .ref y)]) rfl (Nat.le_of_ble_eq_true rfl) ?_
  obtain ⟨hf9, A9, p9, co9, en9, dd9, op9, hM9, hK9, hp9, hc9, hz9⟩ := id hR
  obtain ⟨z1, z2, z3, z4, z5, z6, z7, z8, z9⟩ := hz9 h0
  have z70 : op9 = 0 := z7
  have hop9 : op9 < 100 := by omega
  refine x_aload_n dX12_top_0 0 rfl ?_
  refine x_get (v := .int (nI op9)) dX12_top_1 fX12_258 (hM9.1) rfl ?_
  refine x_ifN_ne (tgt := 11) dX12_top_4 (by decide) (by omega) (fun c4 => ?_) (fun c4 => ?_)
  · exact absurd c4 (by omega)
  · refine x_iconst dX12_top_7 ki_m1 ?_
    refine x_goto (tgt := 22) dX12_top_8 (by decide) ?_
    exact x_iret dX12_top_22 rfl (xRet_i)
theorem PR_top1 {K : xG} {h y : Nat} {G0 G : xHp} {hl : xHl} {r : xRw} {sc : Nat × Nat × Int32} {A0 : Nat → Nat → Int32} {F : Nat → Int32} {wa sa : Nat → Int64} {tn : Nat} {tp : Nat → Nat} {sl b : Nat} {os : List Nat} {s : xPS} {o dd : Nat} (hR : PR G0 G y hl r sc A0 F wa sa tn tp sl b dd (o :: os) s) (h0 : s.1 = 0) (hol : os.length < 401) : xCall K mX12_top 0 0 0 [.ref y] h G (xRet (some (.int (nI o))) h G) := by
  refine x_entry (by decide) (ls := [(0, .ref y)]) rfl (Nat.le_of_ble_eq_true rfl) ?_
  obtain ⟨hf9, A9, p9, co9, en9, dd9, op9, hM9, hK9, hp9, hc9, hz9⟩ := id hR
  obtain ⟨z1, z2, z3, z4, z5, z6, z7, z8, z9⟩ := hz9 h0
  have z70 : op9 = os.length + 1 := z7
  have z80 := z8.hd
  subst z70
  refine x_aload_n dX12_top_0 0 rfl ?_
  refine x_get (v := .int (nI (os.length + 1))) dX12_top_1 fX12_258 (hM9.1) rfl ?_
  refine x_ifN_ne (tgt := 11) dX12_top_4 (by decide) (by omega) (fun c4 => ?_) (fun c4 => ?_)
  · refine x_aload_n dX12_top_11 0 rfl ?_
    refine x_get (v := .ref (y + 34)) dX12_top_12 fX12_114 (hM9.1) rfl ?_
    refine x_aload_n dX12_top_15 0 rfl ?_
    refine x_get (v := .int (nI (os.length + 1))) dX12_top_16 fX12_258 (hM9.1) rfl ?_
    refine x_iconst dX12_top_19 ki_1 ?_
    refine x_isubN dX12_top_20 (by omega) ?_
    refine x_topi (y := nI os.length) (by rw [Nat.add_sub_cancel]) ?_
    refine x_pc (pc' := 21) rfl ?_
    refine x_ialdN (n := 402) (f := A9 34) dX12_top_21 (hM9.c34) (by omega) (by decide) ?_
    exact x_iret dX12_top_22 rfl (xRet_e (by rw [z80]) rfl)
  · exact absurd c4 (by omega)
theorem PRs_opens10 {K : xG} {h y : Nat} {G0 G : xHp} {hl : xHl} {r : xRw} {sc : Nat × Nat × Int32} {A0 : Nat → Nat → Int32} {F : Nat → Int32} {wa sa : Nat → Int64} {tn : Nat} {tp : Nat → Nat} {sl b : Nat} {os : List Nat} {s : xPS} (htn : tn ≤ 400) (hR : PRs G0 G y hl r sc A0 F wa sa tn tp sl b (dpt os) os s) (h0 : s.1 = 0) (hol : os.length < 402) : xCall K mX12_opens 1 0 0 [.ref y, .int (nI 10)] h G (prsQ G0 h y hl r sc A0 F wa sa tn tp sl b (dpt os) (10 :: os) s) := by
  refine x_entry (by decide) (ls := [(0, .ref y), (1, .int (nI 10))]) rfl (Nat.le_of_ble_eq_true rfl) ?_
  obtain ⟨hf9, A9, p9, co9, en9, dd9, op9, hM9, hK9, hp9, hc9, hz9⟩ := id hR
  obtain ⟨z1, z2, z3, z4, z5, z6, z7, z8, z9⟩ := hz9 h0
  subst z7
  subst z6
  refine x_iload_n dX12_opens_0 1 rfl ?_
  refine x_bipush dX12_opens_1 kb_9 ?_
  refine x_icmpN_eq (tgt := 12) dX12_opens_3 (by decide) (by omega) (by omega) (fun c3 => ?_) (fun c3 => ?_)
  · exact absurd c3 (by decide)
  · refine x_iload_n dX12_opens_6 1 rfl ?_
    refine x_bipush dX12_opens_7 kb_12 ?_
    refine x_icmpN_ne (tgt := 40) dX12_opens_9 (by decide) (by omega) (by omega) (fun c9 => ?_) (fun c9 => ?_)
    · refine x_aload_n dX12_opens_40 0 rfl ?_
      refine x_get (v := .ref (y + 34)) dX12_opens_41 fX12_114 (hM9.1) rfl ?_
      refine x_aload_n dX12_opens_44 0 rfl ?_
      refine x_pc (pc' := 45) rfl ?_
      refine x_get (v := .int (nI os.length)) dX12_opens_45 fX12_258 (hM9.1) rfl ?_
      refine x_iload_n dX12_opens_48 1 rfl ?_
      refine x_iastN (n := 402) (f := A9 34) dX12_opens_49 (hM9.c34) (by omega) (by decide) ?_
      have hM101 := hM9.a34 (upd (A9 34) os.length (nI 10))
      refine x_aload_n dX12_opens_50 0 rfl ?_
      refine x_dup dX12_opens_51 rfl ?_
      refine x_get (v := .int (nI os.length)) dX12_opens_52 fX12_258 (hM101.1) rfl ?_
      refine x_iconst dX12_opens_55 ki_1 ?_
      refine x_iaddN dX12_opens_56 ?_
      refine x_put (fs' := [.int (F 0), .ref (y + 1), .ref (y + 2), .ref (y + 3), .ref (y + 4), .ref (y + 5), .ref (y + 6), .ref (y + 7), .ref (y + 8), .ref (y + 9), .ref (y + 10), .ref (y + 11), .ref (y + 12), .ref (y + 13), .ref (y + 14), .ref (y + 15), .ref (y + 16), .ref (y + 17), .ref (y + 18), .ref (y + 19), .ref (y + 20), .ref (y + 21), .ref (y + 22), .ref (y + 23), .ref (y + 24), .ref (y + 25), .ref (y + 26), .int (nI tn), .int (nI p9), .int (nI ((s).1)), .int (nI sl), .int (F 31), .int (nI en9), .int (nI (dpt os)), .int (nI co9), .int (nI (os.length + 1)), .int (nI 12), .ref (y + 27), .ref (y + 28), .ref (y + 29), .ref (y + 30), .ref (y + 31), .ref (y + 32), .ref (y + 33), .ref (y + 34), .ref (y + 35), .ref (y + 36), .ref (y + 37), .ref (y + 38), .int (F 49), .int (F 50), .int (F 51), .int (F 52), .int (F 53), .ref (y + 39), .ref (y + 40), .ref (y + 41), .int (F 57), .int (F 58), .ref (y + 42), .ref (y + 43), .ref (y + 44), .ref (y + 45), .int (F 63), .int (F 64)]) dX12_opens_57 fX12_258 (hM101.1) (Nat.le_of_ble_eq_true rfl) rfl rfl rfl ?_
      refine x_geq (G' := xup _ y (modO y (pF (upd F 36 (nI 12)) tn p9 ((s).1) sl en9 (dpt os) co9 (os.length + 1)))) rfl ?_
      have hM102 := hM101.fld (pF (upd F 36 (nI 12)) tn p9 ((s).1) sl en9 (dpt os) co9 (os.length + 1))
      exact x_vret dX12_opens_60 rfl (xEx_i _ ⟨hf9, _, _, _, _, _, _, hM102, hK9.a34, hp9, hc9, fun _ => ⟨z1, z2, z3, z4, z5, rfl, rfl, by rw [a34_at]; exact z8.up 10, z9.a34⟩⟩ rfl rfl rfl)
    · exact absurd c9 (by decide)
theorem PRs_opens11 {K : xG} {h y : Nat} {G0 G : xHp} {hl : xHl} {r : xRw} {sc : Nat × Nat × Int32} {A0 : Nat → Nat → Int32} {F : Nat → Int32} {wa sa : Nat → Int64} {tn : Nat} {tp : Nat → Nat} {sl b : Nat} {os : List Nat} {s : xPS} (htn : tn ≤ 400) (hR : PRs G0 G y hl r sc A0 F wa sa tn tp sl b (dpt os) os s) (h0 : s.1 = 0) (hol : os.length < 402) : xCall K mX12_opens 1 0 0 [.ref y, .int (nI 11)] h G (prsQ G0 h y hl r sc A0 F wa sa tn tp sl b (dpt os) (11 :: os) s) := by
  refine x_entry (by decide) (ls := [(0, .ref y), (1, .int (nI 11))]) rfl (Nat.le_of_ble_eq_true rfl) ?_
  obtain ⟨hf9, A9, p9, co9, en9, dd9, op9, hM9, hK9, hp9, hc9, hz9⟩ := id hR
  obtain ⟨z1, z2, z3, z4, z5, z6, z7, z8, z9⟩ := hz9 h0
  subst z7
  subst z6
  refine x_iload_n dX12_opens_0 1 rfl ?_
  refine x_bipush dX12_opens_1 kb_9 ?_
  refine x_icmpN_eq (tgt := 12) dX12_opens_3 (by decide) (by omega) (by omega) (fun c3 => ?_) (fun c3 => ?_)
  · exact absurd c3 (by decide)
  · refine x_iload_n dX12_opens_6 1 rfl ?_
    refine x_bipush dX12_opens_7 kb_12 ?_
    refine x_icmpN_ne (tgt := 40) dX12_opens_9 (by decide) (by omega) (by omega) (fun c9 => ?_) (fun c9 => ?_)
    · refine x_aload_n dX12_opens_40 0 rfl ?_
      refine x_get (v := .ref (y + 34)) dX12_opens_41 fX12_114 (hM9.1) rfl ?_
      refine x_aload_n dX12_opens_44 0 rfl ?_
      refine x_pc (pc' := 45) rfl ?_
      refine x_get (v := .int (nI os.length)) dX12_opens_45 fX12_258 (hM9.1) rfl ?_
      refine x_iload_n dX12_opens_48 1 rfl ?_
      refine x_iastN (n := 402) (f := A9 34) dX12_opens_49 (hM9.c34) (by omega) (by decide) ?_
      have hM101 := hM9.a34 (upd (A9 34) os.length (nI 11))
      refine x_aload_n dX12_opens_50 0 rfl ?_
      refine x_dup dX12_opens_51 rfl ?_
      refine x_get (v := .int (nI os.length)) dX12_opens_52 fX12_258 (hM101.1) rfl ?_
      refine x_iconst dX12_opens_55 ki_1 ?_
      refine x_iaddN dX12_opens_56 ?_
      refine x_put (fs' := [.int (F 0), .ref (y + 1), .ref (y + 2), .ref (y + 3), .ref (y + 4), .ref (y + 5), .ref (y + 6), .ref (y + 7), .ref (y + 8), .ref (y + 9), .ref (y + 10), .ref (y + 11), .ref (y + 12), .ref (y + 13), .ref (y + 14), .ref (y + 15), .ref (y + 16), .ref (y + 17), .ref (y + 18), .ref (y + 19), .ref (y + 20), .ref (y + 21), .ref (y + 22), .ref (y + 23), .ref (y + 24), .ref (y + 25), .ref (y + 26), .int (nI tn), .int (nI p9), .int (nI ((s).1)), .int (nI sl), .int (F 31), .int (nI en9), .int (nI (dpt os)), .int (nI co9), .int (nI (os.length + 1)), .int (nI 12), .ref (y + 27), .ref (y + 28), .ref (y + 29), .ref (y + 30), .ref (y + 31), .ref (y + 32), .ref (y + 33), .ref (y + 34), .ref (y + 35), .ref (y + 36), .ref (y + 37), .ref (y + 38), .int (F 49), .int (F 50), .int (F 51), .int (F 52), .int (F 53), .ref (y + 39), .ref (y + 40), .ref (y + 41), .int (F 57), .int (F 58), .ref (y + 42), .ref (y + 43), .ref (y + 44), .ref (y + 45), .int (F 63), .int (F 64)]) dX12_opens_57 fX12_258 (hM101.1) (Nat.le_of_ble_eq_true rfl) rfl rfl rfl ?_
      refine x_geq (G' := xup _ y (modO y (pF (upd F 36 (nI 12)) tn p9 ((s).1) sl en9 (dpt os) co9 (os.length + 1)))) rfl ?_
      have hM102 := hM101.fld (pF (upd F 36 (nI 12)) tn p9 ((s).1) sl en9 (dpt os) co9 (os.length + 1))
      exact x_vret dX12_opens_60 rfl (xEx_i _ ⟨hf9, _, _, _, _, _, _, hM102, hK9.a34, hp9, hc9, fun _ => ⟨z1, z2, z3, z4, z5, rfl, rfl, by rw [a34_at]; exact z8.up 11, z9.a34⟩⟩ rfl rfl rfl)
    · exact absurd c9 (by decide)
theorem PRs_opens9 {K : xG} {h y : Nat} {G0 G : xHp} {hl : xHl} {r : xRw} {sc : Nat × Nat × Int32} {A0 : Nat → Nat → Int32} {F : Nat → Int32} {wa sa : Nat → Int64} {tn : Nat} {tp : Nat → Nat} {sl b : Nat} {os : List Nat} {s : xPS} (htn : tn ≤ 400) (hR : PRs G0 G y hl r sc A0 F wa sa tn tp sl b (dpt os) os s) (h0 : s.1 = 0) (hol : os.length < 402) (hdp : dpt os < 10) : xCall K mX12_opens 1 0 0 [.ref y, .int (nI 9)] h G (prsQ G0 h y hl r sc A0 F wa sa tn tp sl b (dpt os + 1) (9 :: os) s) := by
  refine x_entry (by decide) (ls := [(0, .ref y), (1, .int (nI 9))]) rfl (Nat.le_of_ble_eq_true rfl) ?_
  obtain ⟨hf9, A9, p9, co9, en9, dd9, op9, hM9, hK9, hp9, hc9, hz9⟩ := id hR
  obtain ⟨z1, z2, z3, z4, z5, z6, z7, z8, z9⟩ := hz9 h0
  subst z7
  subst z6
  refine x_iload_n dX12_opens_0 1 rfl ?_
  refine x_bipush dX12_opens_1 kb_9 ?_
  refine x_icmpN_eq (tgt := 12) dX12_opens_3 (by decide) (by omega) (by omega) (fun c3 => ?_) (fun c3 => ?_)
  · refine x_aload_n dX12_opens_12 0 rfl ?_
    refine x_get (v := .int (nI (dpt os))) dX12_opens_13 fX12_261 (hM9.1) rfl ?_
    refine x_bipush dX12_opens_16 kb_10 ?_
    refine x_icmpN_ne (tgt := 30) dX12_opens_18 (by decide) (by omega) (by omega) (fun c18 => ?_) (fun c18 => ?_)
    · refine x_aload_n dX12_opens_30 0 rfl ?_
      refine x_dup dX12_opens_31 rfl ?_
      refine x_pc (pc' := 32) rfl ?_
      refine x_get (v := .int (nI (dpt os))) dX12_opens_32 fX12_261 (hM9.1) rfl ?_
      refine x_iconst dX12_opens_35 ki_1 ?_
      refine x_iaddN dX12_opens_36 ?_
      refine x_put (fs' := [.int (F 0), .ref (y + 1), .ref (y + 2), .ref (y + 3), .ref (y + 4), .ref (y + 5), .ref (y + 6), .ref (y + 7), .ref (y + 8), .ref (y + 9), .ref (y + 10), .ref (y + 11), .ref (y + 12), .ref (y + 13), .ref (y + 14), .ref (y + 15), .ref (y + 16), .ref (y + 17), .ref (y + 18), .ref (y + 19), .ref (y + 20), .ref (y + 21), .ref (y + 22), .ref (y + 23), .ref (y + 24), .ref (y + 25), .ref (y + 26), .int (nI tn), .int (nI p9), .int (nI ((s).1)), .int (nI sl), .int (F 31), .int (nI en9), .int (nI ((dpt os) + 1)), .int (nI co9), .int (nI os.length), .int (nI 12), .ref (y + 27), .ref (y + 28), .ref (y + 29), .ref (y + 30), .ref (y + 31), .ref (y + 32), .ref (y + 33), .ref (y + 34), .ref (y + 35), .ref (y + 36), .ref (y + 37), .ref (y + 38), .int (F 49), .int (F 50), .int (F 51), .int (F 52), .int (F 53), .ref (y + 39), .ref (y + 40), .ref (y + 41), .int (F 57), .int (F 58), .ref (y + 42), .ref (y + 43), .ref (y + 44), .ref (y + 45), .int (F 63), .int (F 64)]) dX12_opens_37 fX12_261 (hM9.1) (Nat.le_of_ble_eq_true rfl) rfl rfl rfl ?_
      refine x_geq (G' := xup _ y (modO y (pF (upd F 36 (nI 12)) tn p9 ((s).1) sl en9 ((dpt os) + 1) co9 os.length))) rfl ?_
      have hM101 := hM9.fld (pF (upd F 36 (nI 12)) tn p9 ((s).1) sl en9 ((dpt os) + 1) co9 os.length)
      refine x_aload_n dX12_opens_40 0 rfl ?_
      refine x_get (v := .ref (y + 34)) dX12_opens_41 fX12_114 (hM101.1) rfl ?_
      refine x_aload_n dX12_opens_44 0 rfl ?_
      refine x_get (v := .int (nI os.length)) dX12_opens_45 fX12_258 (hM101.1) rfl ?_
      refine x_iload_n dX12_opens_48 1 rfl ?_
      refine x_iastN (n := 402) (f := A9 34) dX12_opens_49 (hM101.c34) (by omega) (by decide) ?_
      have hM102 := hM101.a34 (upd (A9 34) os.length (nI 9))
      refine x_pc (pc' := 50) rfl ?_
      refine x_aload_n dX12_opens_50 0 rfl ?_
      refine x_dup dX12_opens_51 rfl ?_
      refine x_get (v := .int (nI os.length)) dX12_opens_52 fX12_258 (hM102.1) rfl ?_
      refine x_iconst dX12_opens_55 ki_1 ?_
      refine x_iaddN dX12_opens_56 ?_
      refine x_put (fs' := [.int (F 0), .ref (y + 1), .ref (y + 2), .ref (y + 3), .ref (y + 4), .ref (y + 5), .ref (y + 6), .ref (y + 7), .ref (y + 8), .ref (y + 9), .ref (y + 10), .ref (y + 11), .ref (y + 12), .ref (y + 13), .ref (y + 14), .ref (y + 15), .ref (y + 16), .ref (y + 17), .ref (y + 18), .ref (y + 19), .ref (y + 20), .ref (y + 21), .ref (y + 22), .ref (y + 23), .ref (y + 24), .ref (y + 25), .ref (y + 26), .int (nI tn), .int (nI p9), .int (nI ((s).1)), .int (nI sl), .int (F 31), .int (nI en9), .int (nI ((dpt os) + 1)), .int (nI co9), .int (nI (os.length + 1)), .int (nI 12), .ref (y + 27), .ref (y + 28), .ref (y + 29), .ref (y + 30), .ref (y + 31), .ref (y + 32), .ref (y + 33), .ref (y + 34), .ref (y + 35), .ref (y + 36), .ref (y + 37), .ref (y + 38), .int (F 49), .int (F 50), .int (F 51), .int (F 52), .int (F 53), .ref (y + 39), .ref (y + 40), .ref (y + 41), .int (F 57), .int (F 58), .ref (y + 42), .ref (y + 43), .ref (y + 44), .ref (y + 45), .int (F 63), .int (F 64)]) dX12_opens_57 fX12_258 (hM102.1) (Nat.le_of_ble_eq_true rfl) rfl rfl rfl ?_
      refine x_geq (G' := xup _ y (modO y (pF (upd F 36 (nI 12)) tn p9 ((s).1) sl en9 ((dpt os) + 1) co9 (os.length + 1)))) rfl ?_
      have hM103 := hM102.fld (pF (upd F 36 (nI 12)) tn p9 ((s).1) sl en9 ((dpt os) + 1) co9 (os.length + 1))
      exact x_vret dX12_opens_60 rfl (xEx_i _ ⟨hf9, _, _, _, _, _, _, hM103, hK9.a34, hp9, hc9, fun _ => ⟨z1, z2, z3, z4, z5, rfl, rfl, by rw [a34_at]; exact z8.up 9, z9.a34⟩⟩ rfl rfl rfl)
    · exact absurd c18 (by omega)
  · exact absurd c3 (by decide)
theorem PRs_opens12 {K : xG} {h y : Nat} {G0 G : xHp} {hl : xHl} {r : xRw} {sc : Nat × Nat × Int32} {A0 : Nat → Nat → Int32} {F : Nat → Int32} {wa sa : Nat → Int64} {tn : Nat} {tp : Nat → Nat} {sl b : Nat} {os : List Nat} {s : xPS} (htn : tn ≤ 400) (hR : PRs G0 G y hl r sc A0 F wa sa tn tp sl b (dpt os) os s) (h0 : s.1 = 0) (hol : os.length < 402) (hdp : dpt os < 10) : xCall K mX12_opens 1 0 0 [.ref y, .int (nI 12)] h G (prsQ G0 h y hl r sc A0 F wa sa tn tp sl b (dpt os + 1) (12 :: os) s) := by
  refine x_entry (by decide) (ls := [(0, .ref y), (1, .int (nI 12))]) rfl (Nat.le_of_ble_eq_true rfl) ?_
  obtain ⟨hf9, A9, p9, co9, en9, dd9, op9, hM9, hK9, hp9, hc9, hz9⟩ := id hR
  obtain ⟨z1, z2, z3, z4, z5, z6, z7, z8, z9⟩ := hz9 h0
  subst z7
  subst z6
  refine x_iload_n dX12_opens_0 1 rfl ?_
  refine x_bipush dX12_opens_1 kb_9 ?_
  refine x_icmpN_eq (tgt := 12) dX12_opens_3 (by decide) (by omega) (by omega) (fun c3 => ?_) (fun c3 => ?_)
  · exact absurd c3 (by decide)
  · refine x_iload_n dX12_opens_6 1 rfl ?_
    refine x_bipush dX12_opens_7 kb_12 ?_
    refine x_icmpN_ne (tgt := 40) dX12_opens_9 (by decide) (by omega) (by omega) (fun c9 => ?_) (fun c9 => ?_)
    · exact absurd c9 (by decide)
    · refine x_aload_n dX12_opens_12 0 rfl ?_
      refine x_get (v := .int (nI (dpt os))) dX12_opens_13 fX12_261 (hM9.1) rfl ?_
      refine x_bipush dX12_opens_16 kb_10 ?_
      refine x_pc (pc' := 18) rfl ?_
      refine x_icmpN_ne (tgt := 30) dX12_opens_18 (by decide) (by omega) (by omega) (fun c18 => ?_) (fun c18 => ?_)
      · refine x_aload_n dX12_opens_30 0 rfl ?_
        refine x_dup dX12_opens_31 rfl ?_
        refine x_get (v := .int (nI (dpt os))) dX12_opens_32 fX12_261 (hM9.1) rfl ?_
        refine x_iconst dX12_opens_35 ki_1 ?_
        refine x_iaddN dX12_opens_36 ?_
        refine x_put (fs' := [.int (F 0), .ref (y + 1), .ref (y + 2), .ref (y + 3), .ref (y + 4), .ref (y + 5), .ref (y + 6), .ref (y + 7), .ref (y + 8), .ref (y + 9), .ref (y + 10), .ref (y + 11), .ref (y + 12), .ref (y + 13), .ref (y + 14), .ref (y + 15), .ref (y + 16), .ref (y + 17), .ref (y + 18), .ref (y + 19), .ref (y + 20), .ref (y + 21), .ref (y + 22), .ref (y + 23), .ref (y + 24), .ref (y + 25), .ref (y + 26), .int (nI tn), .int (nI p9), .int (nI ((s).1)), .int (nI sl), .int (F 31), .int (nI en9), .int (nI ((dpt os) + 1)), .int (nI co9), .int (nI os.length), .int (nI 12), .ref (y + 27), .ref (y + 28), .ref (y + 29), .ref (y + 30), .ref (y + 31), .ref (y + 32), .ref (y + 33), .ref (y + 34), .ref (y + 35), .ref (y + 36), .ref (y + 37), .ref (y + 38), .int (F 49), .int (F 50), .int (F 51), .int (F 52), .int (F 53), .ref (y + 39), .ref (y + 40), .ref (y + 41), .int (F 57), .int (F 58), .ref (y + 42), .ref (y + 43), .ref (y + 44), .ref (y + 45), .int (F 63), .int (F 64)]) dX12_opens_37 fX12_261 (hM9.1) (Nat.le_of_ble_eq_true rfl) rfl rfl rfl ?_
        refine x_geq (G' := xup _ y (modO y (pF (upd F 36 (nI 12)) tn p9 ((s).1) sl en9 ((dpt os) + 1) co9 os.length))) rfl ?_
        have hM101 := hM9.fld (pF (upd F 36 (nI 12)) tn p9 ((s).1) sl en9 ((dpt os) + 1) co9 os.length)
        refine x_aload_n dX12_opens_40 0 rfl ?_
        refine x_get (v := .ref (y + 34)) dX12_opens_41 fX12_114 (hM101.1) rfl ?_
        refine x_aload_n dX12_opens_44 0 rfl ?_
        refine x_pc (pc' := 45) rfl ?_
        refine x_get (v := .int (nI os.length)) dX12_opens_45 fX12_258 (hM101.1) rfl ?_
        refine x_iload_n dX12_opens_48 1 rfl ?_
        refine x_iastN (n := 402) (f := A9 34) dX12_opens_49 (hM101.c34) (by omega) (by decide) ?_
        have hM102 := hM101.a34 (upd (A9 34) os.length (nI 12))
        refine x_aload_n dX12_opens_50 0 rfl ?_
        refine x_dup dX12_opens_51 rfl ?_
        refine x_get (v := .int (nI os.length)) dX12_opens_52 fX12_258 (hM102.1) rfl ?_
        refine x_iconst dX12_opens_55 ki_1 ?_
        refine x_iaddN dX12_opens_56 ?_
        refine x_put (fs' := [.int (F 0), .ref (y + 1), .ref (y + 2), .ref (y + 3), .ref (y + 4), .ref (y + 5), .ref (y + 6), .ref (y + 7), .ref (y + 8), .ref (y + 9), .ref (y + 10), .ref (y + 11), .ref (y + 12), .ref (y + 13), .ref (y + 14), .ref (y + 15), .ref (y + 16), .ref (y + 17), .ref (y + 18), .ref (y + 19), .ref (y + 20), .ref (y + 21), .ref (y + 22), .ref (y + 23), .ref (y + 24), .ref (y + 25), .ref (y + 26), .int (nI tn), .int (nI p9), .int (nI ((s).1)), .int (nI sl), .int (F 31), .int (nI en9), .int (nI ((dpt os) + 1)), .int (nI co9), .int (nI (os.length + 1)), .int (nI 12), .ref (y + 27), .ref (y + 28), .ref (y + 29), .ref (y + 30), .ref (y + 31), .ref (y + 32), .ref (y + 33), .ref (y + 34), .ref (y + 35), .ref (y + 36), .ref (y + 37), .ref (y + 38), .int (F 49), .int (F 50), .int (F 51), .int (F 52), .int (F 53), .ref (y + 39), .ref (y + 40), .ref (y + 41), .int (F 57), .int (F 58), .ref (y + 42), .ref (y + 43), .ref (y + 44), .ref (y + 45), .int (F 63), .int (F 64)]) dX12_opens_57 fX12_258 (hM102.1) (Nat.le_of_ble_eq_true rfl) rfl rfl rfl ?_
        refine x_geq (G' := xup _ y (modO y (pF (upd F 36 (nI 12)) tn p9 ((s).1) sl en9 ((dpt os) + 1) co9 (os.length + 1)))) rfl ?_
        have hM103 := hM102.fld (pF (upd F 36 (nI 12)) tn p9 ((s).1) sl en9 ((dpt os) + 1) co9 (os.length + 1))
        exact x_vret dX12_opens_60 rfl (xEx_i _ ⟨hf9, _, _, _, _, _, _, hM103, hK9.a34, hp9, hc9, fun _ => ⟨z1, z2, z3, z4, z5, rfl, rfl, by rw [a34_at]; exact z8.up 12, z9.a34⟩⟩ rfl rfl rfl)
      · exact absurd c18 (by omega)
theorem PRs_deep9 {K : xG} {h y : Nat} {G0 G : xHp} {hl : xHl} {r : xRw} {sc : Nat × Nat × Int32} {A0 : Nat → Nat → Int32} {F : Nat → Int32} {wa sa : Nat → Int64} {tn : Nat} {tp : Nat → Nat} {sl b : Nat} {os : List Nat} {s : xPS} (htn : tn ≤ 400) (hR : PRs G0 G y hl r sc A0 F wa sa tn tp sl b (dpt os) os s) (h0 : s.1 = 0) (hol : os.length < 402) (hdp : dpt os = 10) : xCall K mX12_opens 1 0 0 [.ref y, .int (nI 9)] h G (prsQ G0 h y hl r sc A0 F wa sa tn tp sl b (dpt os) os (failP tp tn s 2)) := by
  refine x_entry (by decide) (ls := [(0, .ref y), (1, .int (nI 9))]) rfl (Nat.le_of_ble_eq_true rfl) ?_
  obtain ⟨hf9, A9, p9, co9, en9, dd9, op9, hM9, hK9, hp9, hc9, hz9⟩ := id hR
  obtain ⟨z1, z2, z3, z4, z5, z6, z7, z8, z9⟩ := hz9 h0
  subst z7
  have z60 : dd9 = 10 := z6.trans hdp
  subst z60
  refine x_iload_n dX12_opens_0 1 rfl ?_
  refine x_bipush dX12_opens_1 kb_9 ?_
  refine x_icmpN_eq (tgt := 12) dX12_opens_3 (by decide) (by omega) (by omega) (fun c3 => ?_) (fun c3 => ?_)
  · refine x_aload_n dX12_opens_12 0 rfl ?_
    refine x_get (v := .int (nI 10)) dX12_opens_13 fX12_261 (hM9.1) rfl ?_
    refine x_bipush dX12_opens_16 kb_10 ?_
    refine x_icmpN_ne (tgt := 30) dX12_opens_18 (by decide) (by omega) (by omega) (fun c18 => ?_) (fun c18 => ?_)
    · exact absurd c18 (by decide)
    · refine x_aload_n dX12_opens_21 0 rfl ?_
      refine x_iconst dX12_opens_22 ki_2 ?_
      refine x_pc (pc' := 23) rfl ?_
      refine x_aload_n dX12_opens_23 0 rfl ?_
      refine x_get (v := .int (nI p9)) dX12_opens_24 fX12_190 (hM9.1) rfl ?_
      refine x_cVe (N := mX12_fails) (d' := 0) (mc := 0) (ms := 0) (cb := 0) (sb := 0) (As := [.int (nI 2), .int (nI p9)]) (st := []) dX12_opens_27 mX12_fails_v lX12_226 rfl rfl (hM9.1) rfl (by decide) (Nat.le_of_ble_eq_true rfl) (Md_fails hM9 hf9) rfl (sf := fun G2 => []) (fun _ => rfl) (fun G2 hN2 => ?_)
      refine x_aload_n dX12_opens_30 0 rfl ?_
      refine x_dup dX12_opens_31 rfl ?_
      refine x_get (v := .int (nI 10)) dX12_opens_32 fX12_261 (hN2.1) rfl ?_
      refine x_iconst dX12_opens_35 ki_1 ?_
      refine x_iaddN dX12_opens_36 ?_
      refine x_put (fs' := [.int (F 0), .ref (y + 1), .ref (y + 2), .ref (y + 3), .ref (y + 4), .ref (y + 5), .ref (y + 6), .ref (y + 7), .ref (y + 8), .ref (y + 9), .ref (y + 10), .ref (y + 11), .ref (y + 12), .ref (y + 13), .ref (y + 14), .ref (y + 15), .ref (y + 16), .ref (y + 17), .ref (y + 18), .ref (y + 19), .ref (y + 20), .ref (y + 21), .ref (y + 22), .ref (y + 23), .ref (y + 24), .ref (y + 25), .ref (y + 26), .int (nI tn), .int (nI p9), .int (nI (flt s.1 2 p9)), .int (nI sl), .int (F 31), .int (nI en9), .int (nI 11), .int (nI co9), .int (nI os.length), .int (nI 12), .ref (y + 27), .ref (y + 28), .ref (y + 29), .ref (y + 30), .ref (y + 31), .ref (y + 32), .ref (y + 33), .ref (y + 34), .ref (y + 35), .ref (y + 36), .ref (y + 37), .ref (y + 38), .int (F 49), .int (F 50), .int (F 51), .int (F 52), .int (F 53), .ref (y + 39), .ref (y + 40), .ref (y + 41), .int (F 57), .int (F 58), .ref (y + 42), .ref (y + 43), .ref (y + 44), .ref (y + 45), .int (F 63), .int (F 64)]) dX12_opens_37 fX12_261 (hN2.1) (Nat.le_of_ble_eq_true rfl) rfl rfl rfl ?_
      refine x_geq (G' := xup _ y (modO y (pF (upd F 36 (nI 12)) tn p9 (flt s.1 2 p9) sl en9 11 co9 os.length))) rfl ?_
      have hM101 := hN2.fld (pF (upd F 36 (nI 12)) tn p9 (flt s.1 2 p9) sl en9 11 co9 os.length)
      refine x_aload_n dX12_opens_40 0 rfl ?_
      refine x_pc (pc' := 41) rfl ?_
      refine x_get (v := .ref (y + 34)) dX12_opens_41 fX12_114 (hM101.1) rfl ?_
      refine x_aload_n dX12_opens_44 0 rfl ?_
      refine x_get (v := .int (nI os.length)) dX12_opens_45 fX12_258 (hM101.1) rfl ?_
      refine x_iload_n dX12_opens_48 1 rfl ?_
      refine x_iastN (n := 402) (f := A9 34) dX12_opens_49 (hM101.c34) (by omega) (by decide) ?_
      have hM102 := hM101.a34 (upd (A9 34) os.length (nI 9))
      refine x_aload_n dX12_opens_50 0 rfl ?_
      refine x_dup dX12_opens_51 rfl ?_
      refine x_get (v := .int (nI os.length)) dX12_opens_52 fX12_258 (hM102.1) rfl ?_
      refine x_iconst dX12_opens_55 ki_1 ?_
      refine x_iaddN dX12_opens_56 ?_
      refine x_pc (pc' := 57) rfl ?_
      refine x_put (fs' := [.int (F 0), .ref (y + 1), .ref (y + 2), .ref (y + 3), .ref (y + 4), .ref (y + 5), .ref (y + 6), .ref (y + 7), .ref (y + 8), .ref (y + 9), .ref (y + 10), .ref (y + 11), .ref (y + 12), .ref (y + 13), .ref (y + 14), .ref (y + 15), .ref (y + 16), .ref (y + 17), .ref (y + 18), .ref (y + 19), .ref (y + 20), .ref (y + 21), .ref (y + 22), .ref (y + 23), .ref (y + 24), .ref (y + 25), .ref (y + 26), .int (nI tn), .int (nI p9), .int (nI (flt s.1 2 p9)), .int (nI sl), .int (F 31), .int (nI en9), .int (nI 11), .int (nI co9), .int (nI (os.length + 1)), .int (nI 12), .ref (y + 27), .ref (y + 28), .ref (y + 29), .ref (y + 30), .ref (y + 31), .ref (y + 32), .ref (y + 33), .ref (y + 34), .ref (y + 35), .ref (y + 36), .ref (y + 37), .ref (y + 38), .int (F 49), .int (F 50), .int (F 51), .int (F 52), .int (F 53), .ref (y + 39), .ref (y + 40), .ref (y + 41), .int (F 57), .int (F 58), .ref (y + 42), .ref (y + 43), .ref (y + 44), .ref (y + 45), .int (F 63), .int (F 64)]) dX12_opens_57 fX12_258 (hM102.1) (Nat.le_of_ble_eq_true rfl) rfl rfl rfl ?_
      refine x_geq (G' := xup _ y (modO y (pF (upd F 36 (nI 12)) tn p9 (flt s.1 2 p9) sl en9 11 co9 (os.length + 1)))) rfl ?_
      have hM103 := hM102.fld (pF (upd F 36 (nI 12)) tn p9 (flt s.1 2 p9) sl en9 11 co9 (os.length + 1))
      exact x_vret dX12_opens_60 rfl (xEx_i _ (by refine ⟨by rw [deep_f h0 z2]; exact flt_lt hf9 (by decide) (by omega), _, _, _, _, _, _, by rw [deep_f h0 z2]; exact hM103, hK9.a34, hp9, hc9, fun q0 => absurd q0 failP_ne⟩) rfl rfl rfl)
  · exact absurd c3 (by decide)
theorem PRs_deep12 {K : xG} {h y : Nat} {G0 G : xHp} {hl : xHl} {r : xRw} {sc : Nat × Nat × Int32} {A0 : Nat → Nat → Int32} {F : Nat → Int32} {wa sa : Nat → Int64} {tn : Nat} {tp : Nat → Nat} {sl b : Nat} {os : List Nat} {s : xPS} (htn : tn ≤ 400) (hR : PRs G0 G y hl r sc A0 F wa sa tn tp sl b (dpt os) os s) (h0 : s.1 = 0) (hol : os.length < 402) (hdp : dpt os = 10) : xCall K mX12_opens 1 0 0 [.ref y, .int (nI 12)] h G (prsQ G0 h y hl r sc A0 F wa sa tn tp sl b (dpt os) os (failP tp tn s 2)) := by
  refine x_entry (by decide) (ls := [(0, .ref y), (1, .int (nI 12))]) rfl (Nat.le_of_ble_eq_true rfl) ?_
  obtain ⟨hf9, A9, p9, co9, en9, dd9, op9, hM9, hK9, hp9, hc9, hz9⟩ := id hR
  obtain ⟨z1, z2, z3, z4, z5, z6, z7, z8, z9⟩ := hz9 h0
  subst z7
  have z60 : dd9 = 10 := z6.trans hdp
  subst z60
  refine x_iload_n dX12_opens_0 1 rfl ?_
  refine x_bipush dX12_opens_1 kb_9 ?_
  refine x_icmpN_eq (tgt := 12) dX12_opens_3 (by decide) (by omega) (by omega) (fun c3 => ?_) (fun c3 => ?_)
  · exact absurd c3 (by decide)
  · refine x_iload_n dX12_opens_6 1 rfl ?_
    refine x_bipush dX12_opens_7 kb_12 ?_
    refine x_icmpN_ne (tgt := 40) dX12_opens_9 (by decide) (by omega) (by omega) (fun c9 => ?_) (fun c9 => ?_)
    · exact absurd c9 (by decide)
    · refine x_aload_n dX12_opens_12 0 rfl ?_
      refine x_get (v := .int (nI 10)) dX12_opens_13 fX12_261 (hM9.1) rfl ?_
      refine x_bipush dX12_opens_16 kb_10 ?_
      refine x_pc (pc' := 18) rfl ?_
      refine x_icmpN_ne (tgt := 30) dX12_opens_18 (by decide) (by omega) (by omega) (fun c18 => ?_) (fun c18 => ?_)
      · exact absurd c18 (by decide)
      · refine x_aload_n dX12_opens_21 0 rfl ?_
        refine x_iconst dX12_opens_22 ki_2 ?_
        refine x_aload_n dX12_opens_23 0 rfl ?_
        refine x_get (v := .int (nI p9)) dX12_opens_24 fX12_190 (hM9.1) rfl ?_
        refine x_cVe (N := mX12_fails) (d' := 0) (mc := 0) (ms := 0) (cb := 0) (sb := 0) (As := [.int (nI 2), .int (nI p9)]) (st := []) dX12_opens_27 mX12_fails_v lX12_226 rfl rfl (hM9.1) rfl (by decide) (Nat.le_of_ble_eq_true rfl) (Md_fails hM9 hf9) rfl (sf := fun G2 => []) (fun _ => rfl) (fun G2 hN2 => ?_)
        refine x_aload_n dX12_opens_30 0 rfl ?_
        refine x_dup dX12_opens_31 rfl ?_
        refine x_get (v := .int (nI 10)) dX12_opens_32 fX12_261 (hN2.1) rfl ?_
        refine x_iconst dX12_opens_35 ki_1 ?_
        refine x_pc (pc' := 36) rfl ?_
        refine x_iaddN dX12_opens_36 ?_
        refine x_put (fs' := [.int (F 0), .ref (y + 1), .ref (y + 2), .ref (y + 3), .ref (y + 4), .ref (y + 5), .ref (y + 6), .ref (y + 7), .ref (y + 8), .ref (y + 9), .ref (y + 10), .ref (y + 11), .ref (y + 12), .ref (y + 13), .ref (y + 14), .ref (y + 15), .ref (y + 16), .ref (y + 17), .ref (y + 18), .ref (y + 19), .ref (y + 20), .ref (y + 21), .ref (y + 22), .ref (y + 23), .ref (y + 24), .ref (y + 25), .ref (y + 26), .int (nI tn), .int (nI p9), .int (nI (flt s.1 2 p9)), .int (nI sl), .int (F 31), .int (nI en9), .int (nI 11), .int (nI co9), .int (nI os.length), .int (nI 12), .ref (y + 27), .ref (y + 28), .ref (y + 29), .ref (y + 30), .ref (y + 31), .ref (y + 32), .ref (y + 33), .ref (y + 34), .ref (y + 35), .ref (y + 36), .ref (y + 37), .ref (y + 38), .int (F 49), .int (F 50), .int (F 51), .int (F 52), .int (F 53), .ref (y + 39), .ref (y + 40), .ref (y + 41), .int (F 57), .int (F 58), .ref (y + 42), .ref (y + 43), .ref (y + 44), .ref (y + 45), .int (F 63), .int (F 64)]) dX12_opens_37 fX12_261 (hN2.1) (Nat.le_of_ble_eq_true rfl) rfl rfl rfl ?_
        refine x_geq (G' := xup _ y (modO y (pF (upd F 36 (nI 12)) tn p9 (flt s.1 2 p9) sl en9 11 co9 os.length))) rfl ?_
        have hM101 := hN2.fld (pF (upd F 36 (nI 12)) tn p9 (flt s.1 2 p9) sl en9 11 co9 os.length)
        refine x_aload_n dX12_opens_40 0 rfl ?_
        refine x_get (v := .ref (y + 34)) dX12_opens_41 fX12_114 (hM101.1) rfl ?_
        refine x_aload_n dX12_opens_44 0 rfl ?_
        refine x_get (v := .int (nI os.length)) dX12_opens_45 fX12_258 (hM101.1) rfl ?_
        refine x_iload_n dX12_opens_48 1 rfl ?_
        refine x_iastN (n := 402) (f := A9 34) dX12_opens_49 (hM101.c34) (by omega) (by decide) ?_
        have hM102 := hM101.a34 (upd (A9 34) os.length (nI 12))
        refine x_aload_n dX12_opens_50 0 rfl ?_
        refine x_dup dX12_opens_51 rfl ?_
        refine x_pc (pc' := 52) rfl ?_
        refine x_get (v := .int (nI os.length)) dX12_opens_52 fX12_258 (hM102.1) rfl ?_
        refine x_iconst dX12_opens_55 ki_1 ?_
        refine x_iaddN dX12_opens_56 ?_
        refine x_put (fs' := [.int (F 0), .ref (y + 1), .ref (y + 2), .ref (y + 3), .ref (y + 4), .ref (y + 5), .ref (y + 6), .ref (y + 7), .ref (y + 8), .ref (y + 9), .ref (y + 10), .ref (y + 11), .ref (y + 12), .ref (y + 13), .ref (y + 14), .ref (y + 15), .ref (y + 16), .ref (y + 17), .ref (y + 18), .ref (y + 19), .ref (y + 20), .ref (y + 21), .ref (y + 22), .ref (y + 23), .ref (y + 24), .ref (y + 25), .ref (y + 26), .int (nI tn), .int (nI p9), .int (nI (flt s.1 2 p9)), .int (nI sl), .int (F 31), .int (nI en9), .int (nI 11), .int (nI co9), .int (nI (os.length + 1)), .int (nI 12), .ref (y + 27), .ref (y + 28), .ref (y + 29), .ref (y + 30), .ref (y + 31), .ref (y + 32), .ref (y + 33), .ref (y + 34), .ref (y + 35), .ref (y + 36), .ref (y + 37), .ref (y + 38), .int (F 49), .int (F 50), .int (F 51), .int (F 52), .int (F 53), .ref (y + 39), .ref (y + 40), .ref (y + 41), .int (F 57), .int (F 58), .ref (y + 42), .ref (y + 43), .ref (y + 44), .ref (y + 45), .int (F 63), .int (F 64)]) dX12_opens_57 fX12_258 (hM102.1) (Nat.le_of_ble_eq_true rfl) rfl rfl rfl ?_
        refine x_geq (G' := xup _ y (modO y (pF (upd F 36 (nI 12)) tn p9 (flt s.1 2 p9) sl en9 11 co9 (os.length + 1)))) rfl ?_
        have hM103 := hM102.fld (pF (upd F 36 (nI 12)) tn p9 (flt s.1 2 p9) sl en9 11 co9 (os.length + 1))
        exact x_vret dX12_opens_60 rfl (xEx_i _ (by refine ⟨by rw [deep_f h0 z2]; exact flt_lt hf9 (by decide) (by omega), _, _, _, _, _, _, by rw [deep_f h0 z2]; exact hM103, hK9.a34, hp9, hc9, fun q0 => absurd q0 failP_ne⟩) rfl rfl rfl)
theorem PRs_ans9_loop {K : xG} {h y : Nat} {G0 : xHp} {hl : xHl} {r : xRw} {sc : Nat × Nat × Int32} {A0 : Nat → Nat → Int32} {F : Nat → Int32} {wa sa : Nat → Int64} {tn : Nat} {tp : Nat → Nat} {sl b : Nat} {RR : List Nat × xPS} {c0 : Nat} (hH : PH A0 tp tn sl) : ∀ (os : List Nat) (s : xPS) (G1 : xHp), s.1 = 0 → os.length < 401 → (∀ o ∈ os, o < 13) → Hb tn (3 * pnd os + c0) s → anP 9 os s = RR → PRs G0 G1 y hl r sc A0 F wa sa tn tp sl b (dpt os) os s → xV K mX12_answers 1 0 0 h G1 0 [(0, .ref y), (1, .int (nI 9))] [] (prsQ G0 h y hl r sc A0 F wa sa tn tp sl b (dpt RR.1) RR.1 RR.2) := by
  obtain ⟨hT, hlt, htn, hs6⟩ := id hH
  intro os
  induction os with
  | nil =>
    intro s G1 h0 hol hom hb hr hq1
    have hr0 : ([], s) = RR := hr
    obtain ⟨hf1, A1, p1, co1, en1, dd1, op1, hM1, hK1, hp1, hc1, hz1⟩ := id hq1
    have hT1 : TpE (A1 27) tp := by rw [hK1.1 27 (by decide) (by decide) (by decide)]; exact hT
    refine x_aload_n dX12_answers_0 0 rfl ?_
    refine x_cV (N := mX12_top) (d' := 0) (mc := 0) (ms := 0) (cb := 0) (sb := 0) (As := []) (st := []) dX12_answers_1 mX12_top_v lX12_264 rfl rfl (hM1.1) rfl (by decide) (Nat.le_of_ble_eq_true rfl) (PRs_top0 (os := []) hq1 h0) rfl (st1 := [.int (-1)]) rfl ?_
    refine x_iload_n dX12_answers_4 1 rfl ?_
    refine x_icmp_ne (x := (-1)) (y := nI 9) (tgt := 54) dX12_answers_5 (by decide) (fun c5 => ?_) (fun c5 => ?_)
    · exact x_vret dX12_answers_54 rfl (xEx_i G1 (by rw [← hr0]; exact hq1) rfl rfl rfl)
    · exact absurd c5 (by decide)
  | cons o os ih =>
    intro s G1 h0 hol hom hb hr hq1
    have ho13 := hom o (by simp)
    simp only [List.length_cons] at hol
    obtain ⟨hf1, A1, p1, co1, en1, dd1, op1, hM1, hK1, hp1, hc1, hz1⟩ := id hq1
    have hT1 : TpE (A1 27) tp := by rw [hK1.1 27 (by decide) (by decide) (by decide)]; exact hT
    refine x_aload_n dX12_answers_0 0 rfl ?_
    refine x_cV (N := mX12_top) (d' := 0) (mc := 0) (ms := 0) (cb := 0) (sb := 0) (As := []) (st := []) dX12_answers_1 mX12_top_v lX12_264 rfl rfl (hM1.1) rfl (by decide) (Nat.le_of_ble_eq_true rfl) (PRs_top1 hq1 h0 (by omega)) rfl (st1 := [.int (nI o)]) rfl ?_
    refine x_iload_n dX12_answers_4 1 rfl ?_
    refine x_icmpN_ne (tgt := 54) dX12_answers_5 (by decide) (by omega) (by omega) (fun c5 => ?_) (fun c5 => ?_)
    · exact x_vret dX12_answers_54 rfl (xEx_i G1 (by rw [← hr, an_n c5]; exact hq1) rfl rfl rfl)
    · have hr1 : anP 9 os (putP s 14 0) = RR := by rw [← hr, c5]; exact an_y.symm
      refine x_aload_n dX12_answers_8 0 rfl ?_
      refine x_get (v := .int (nI ((s).1))) dX12_answers_9 fX12_187 (hM1.1) rfl ?_
      refine x_ifN_ne (tgt := 54) dX12_answers_12 (by decide) (by omega) (fun c12 => ?_) (fun c12 => ?_)
      · exact absurd h0 c12
      · refine x_aload_n dX12_answers_15 0 rfl ?_
        refine x_iload_n dX12_answers_16 1 rfl ?_
        refine x_pc (pc' := 17) rfl ?_
        refine x_iconst dX12_answers_17 ki_0 ?_
        refine x_cVe (N := mX12_entry) (d' := 0) (mc := 0) (ms := 0) (cb := 0) (sb := 0) (As := [.int (nI 9), .int (nI 0)]) (st := []) dX12_answers_18 mX12_entry_v lX12_242 rfl rfl (hM1.1) rfl (by decide) (Nat.le_of_ble_eq_true rfl) (PRs_entry (c := 14) hH hq1 (Hb.len htn hb) (by decide)) rfl (sf := fun G2 => []) (fun _ => rfl) (fun G2 hq2 => ?_)
        obtain ⟨hf2, A2, p2, co2, en2, dd2, op2, hM2, hK2, hp2, hc2, hz2⟩ := id hq2
        have hT2 : TpE (A2 27) tp := by rw [hK2.1 27 (by decide) (by decide) (by decide)]; exact hT
        obtain ⟨w1, w2, w3, w4, w5, w6, w7, w8, w9⟩ := hz2 (by rw [putP_f.1]; exact h0)
        have w70 : op2 = os.length + 1 := w7
        subst w70
        have w60 : dd2 = dpt os + 1 := by rw [w6, c5]; rfl
        subst w60
        refine x_aload_n dX12_answers_21 0 rfl ?_
        refine x_dup dX12_answers_22 rfl ?_
        refine x_get (v := .int (nI (os.length + 1))) dX12_answers_23 fX12_258 (hM2.1) rfl ?_
        refine x_iconst dX12_answers_26 ki_1 ?_
        refine x_isubN dX12_answers_27 (by omega) ?_
        refine x_topi (y := nI os.length) (by rw [Nat.add_sub_cancel]) ?_
        refine x_put (fs' := [.int (F 0), .ref (y + 1), .ref (y + 2), .ref (y + 3), .ref (y + 4), .ref (y + 5), .ref (y + 6), .ref (y + 7), .ref (y + 8), .ref (y + 9), .ref (y + 10), .ref (y + 11), .ref (y + 12), .ref (y + 13), .ref (y + 14), .ref (y + 15), .ref (y + 16), .ref (y + 17), .ref (y + 18), .ref (y + 19), .ref (y + 20), .ref (y + 21), .ref (y + 22), .ref (y + 23), .ref (y + 24), .ref (y + 25), .ref (y + 26), .int (nI tn), .int (nI p2), .int (nI ((putP s 14 0).1)), .int (nI sl), .int (F 31), .int (nI en2), .int (nI (dpt os + 1)), .int (nI co2), .int (nI os.length), .int (nI 12), .ref (y + 27), .ref (y + 28), .ref (y + 29), .ref (y + 30), .ref (y + 31), .ref (y + 32), .ref (y + 33), .ref (y + 34), .ref (y + 35), .ref (y + 36), .ref (y + 37), .ref (y + 38), .int (F 49), .int (F 50), .int (F 51), .int (F 52), .int (F 53), .ref (y + 39), .ref (y + 40), .ref (y + 41), .int (F 57), .int (F 58), .ref (y + 42), .ref (y + 43), .ref (y + 44), .ref (y + 45), .int (F 63), .int (F 64)]) dX12_answers_28 fX12_258 (hM2.1) (Nat.le_of_ble_eq_true rfl) rfl rfl rfl ?_
        refine x_geq (G' := xup _ y (modO y (pF (upd F 36 (nI 12)) tn p2 ((putP s 14 0).1) sl en2 (dpt os + 1) co2 os.length))) rfl ?_
        have hM101 := hM2.fld (pF (upd F 36 (nI 12)) tn p2 ((putP s 14 0).1) sl en2 (dpt os + 1) co2 os.length)
        refine x_aload_n dX12_answers_31 0 rfl ?_
        refine x_dup dX12_answers_32 rfl ?_
        refine x_pc (pc' := 33) rfl ?_
        refine x_get (v := .int (nI (dpt os + 1))) dX12_answers_33 fX12_261 (hM101.1) rfl ?_
        refine x_iload_n dX12_answers_36 1 rfl ?_
        refine x_bipush dX12_answers_37 kb_9 ?_
        refine x_icmpN_ne (tgt := 46) dX12_answers_39 (by decide) (by omega) (by omega) (fun c39 => ?_) (fun c39 => ?_)
        · exact absurd c39 (by decide)
        · refine x_iconst dX12_answers_42 ki_1 ?_
          refine x_goto (tgt := 47) dX12_answers_43 (by decide) ?_
          refine x_isubN dX12_answers_47 (by omega) ?_
          refine x_topi (y := nI (dpt os)) (by congr 1) ?_
          refine x_put (fs' := [.int (F 0), .ref (y + 1), .ref (y + 2), .ref (y + 3), .ref (y + 4), .ref (y + 5), .ref (y + 6), .ref (y + 7), .ref (y + 8), .ref (y + 9), .ref (y + 10), .ref (y + 11), .ref (y + 12), .ref (y + 13), .ref (y + 14), .ref (y + 15), .ref (y + 16), .ref (y + 17), .ref (y + 18), .ref (y + 19), .ref (y + 20), .ref (y + 21), .ref (y + 22), .ref (y + 23), .ref (y + 24), .ref (y + 25), .ref (y + 26), .int (nI tn), .int (nI p2), .int (nI ((putP s 14 0).1)), .int (nI sl), .int (F 31), .int (nI en2), .int (nI (dpt os)), .int (nI co2), .int (nI os.length), .int (nI 12), .ref (y + 27), .ref (y + 28), .ref (y + 29), .ref (y + 30), .ref (y + 31), .ref (y + 32), .ref (y + 33), .ref (y + 34), .ref (y + 35), .ref (y + 36), .ref (y + 37), .ref (y + 38), .int (F 49), .int (F 50), .int (F 51), .int (F 52), .int (F 53), .ref (y + 39), .ref (y + 40), .ref (y + 41), .int (F 57), .int (F 58), .ref (y + 42), .ref (y + 43), .ref (y + 44), .ref (y + 45), .int (F 63), .int (F 64)]) dX12_answers_48 fX12_261 (hM101.1) (Nat.le_of_ble_eq_true rfl) rfl rfl rfl ?_
          refine x_geq (G' := xup _ y (modO y (pF (upd F 36 (nI 12)) tn p2 ((putP s 14 0).1) sl en2 (dpt os) co2 os.length))) rfl ?_
          have hM102 := hM101.fld (pF (upd F 36 (nI 12)) tn p2 ((putP s 14 0).1) sl en2 (dpt os) co2 os.length)
          refine x_goto (tgt := 0) dX12_answers_51 (by decide) ?_
          exact ih (putP s 14 0) _ (by rw [putP_f.1]; exact h0) (by omega) (fun o2 ho2 => hom o2 (by simp [ho2])) (Hb.put (hb.wk (by rw [pnd_c (by omega)]; omega))) hr1 ⟨hf2, _, _, _, _, _, _, hM102, hK2, hp2, hc2, fun _ => ⟨w1, w2, w3, w4, w5, rfl, rfl, w8.tl, w9⟩⟩
theorem PRs_ans9 {K : xG} {h y : Nat} {G0 G : xHp} {hl : xHl} {r : xRw} {sc : Nat × Nat × Int32} {A0 : Nat → Nat → Int32} {F : Nat → Int32} {wa sa : Nat → Int64} {tn : Nat} {tp : Nat → Nat} {sl b : Nat} {os : List Nat} {s : xPS} {c0 : Nat} (hH : PH A0 tp tn sl) (h0 : s.1 = 0) (hol : os.length < 401) (hom : ∀ o ∈ os, o < 13) (hb : Hb tn (3 * pnd os + c0) s) (hR : PRs G0 G y hl r sc A0 F wa sa tn tp sl b (dpt os) os s) : xCall K mX12_answers 1 0 0 [.ref y, .int (nI 9)] h G (prsQ G0 h y hl r sc A0 F wa sa tn tp sl b (dpt (anP 9 os s).1) ((anP 9 os s).1) ((anP 9 os s).2)) := by
  refine x_entry (by decide) (ls := [(0, .ref y), (1, .int (nI 9))]) rfl (Nat.le_of_ble_eq_true rfl) ?_
  exact PRs_ans9_loop (c0 := c0) hH os s G h0 hol hom hb rfl hR
theorem PRs_ans10_loop {K : xG} {h y : Nat} {G0 : xHp} {hl : xHl} {r : xRw} {sc : Nat × Nat × Int32} {A0 : Nat → Nat → Int32} {F : Nat → Int32} {wa sa : Nat → Int64} {tn : Nat} {tp : Nat → Nat} {sl b : Nat} {RR : List Nat × xPS} {c0 : Nat} (hH : PH A0 tp tn sl) : ∀ (os : List Nat) (s : xPS) (G1 : xHp), s.1 = 0 → os.length < 401 → (∀ o ∈ os, o < 13) → Hb tn (3 * pnd os + c0) s → anP 10 os s = RR → PRs G0 G1 y hl r sc A0 F wa sa tn tp sl b (dpt os) os s → xV K mX12_answers 1 0 0 h G1 0 [(0, .ref y), (1, .int (nI 10))] [] (prsQ G0 h y hl r sc A0 F wa sa tn tp sl b (dpt RR.1) RR.1 RR.2) := by
  obtain ⟨hT, hlt, htn, hs6⟩ := id hH
  intro os
  induction os with
  | nil =>
    intro s G1 h0 hol hom hb hr hq1
    have hr0 : ([], s) = RR := hr
    obtain ⟨hf1, A1, p1, co1, en1, dd1, op1, hM1, hK1, hp1, hc1, hz1⟩ := id hq1
    have hT1 : TpE (A1 27) tp := by rw [hK1.1 27 (by decide) (by decide) (by decide)]; exact hT
    refine x_aload_n dX12_answers_0 0 rfl ?_
    refine x_cV (N := mX12_top) (d' := 0) (mc := 0) (ms := 0) (cb := 0) (sb := 0) (As := []) (st := []) dX12_answers_1 mX12_top_v lX12_264 rfl rfl (hM1.1) rfl (by decide) (Nat.le_of_ble_eq_true rfl) (PRs_top0 (os := []) hq1 h0) rfl (st1 := [.int (-1)]) rfl ?_
    refine x_iload_n dX12_answers_4 1 rfl ?_
    refine x_icmp_ne (x := (-1)) (y := nI 10) (tgt := 54) dX12_answers_5 (by decide) (fun c5 => ?_) (fun c5 => ?_)
    · exact x_vret dX12_answers_54 rfl (xEx_i G1 (by rw [← hr0]; exact hq1) rfl rfl rfl)
    · exact absurd c5 (by decide)
  | cons o os ih =>
    intro s G1 h0 hol hom hb hr hq1
    have ho13 := hom o (by simp)
    simp only [List.length_cons] at hol
    obtain ⟨hf1, A1, p1, co1, en1, dd1, op1, hM1, hK1, hp1, hc1, hz1⟩ := id hq1
    have hT1 : TpE (A1 27) tp := by rw [hK1.1 27 (by decide) (by decide) (by decide)]; exact hT
    refine x_aload_n dX12_answers_0 0 rfl ?_
    refine x_cV (N := mX12_top) (d' := 0) (mc := 0) (ms := 0) (cb := 0) (sb := 0) (As := []) (st := []) dX12_answers_1 mX12_top_v lX12_264 rfl rfl (hM1.1) rfl (by decide) (Nat.le_of_ble_eq_true rfl) (PRs_top1 hq1 h0 (by omega)) rfl (st1 := [.int (nI o)]) rfl ?_
    refine x_iload_n dX12_answers_4 1 rfl ?_
    refine x_icmpN_ne (tgt := 54) dX12_answers_5 (by decide) (by omega) (by omega) (fun c5 => ?_) (fun c5 => ?_)
    · exact x_vret dX12_answers_54 rfl (xEx_i G1 (by rw [← hr, an_n c5]; exact hq1) rfl rfl rfl)
    · have hr1 : anP 10 os (putP s 12 0) = RR := by rw [← hr, c5]; exact an_y.symm
      refine x_aload_n dX12_answers_8 0 rfl ?_
      refine x_get (v := .int (nI ((s).1))) dX12_answers_9 fX12_187 (hM1.1) rfl ?_
      refine x_ifN_ne (tgt := 54) dX12_answers_12 (by decide) (by omega) (fun c12 => ?_) (fun c12 => ?_)
      · exact absurd h0 c12
      · refine x_aload_n dX12_answers_15 0 rfl ?_
        refine x_iload_n dX12_answers_16 1 rfl ?_
        refine x_pc (pc' := 17) rfl ?_
        refine x_iconst dX12_answers_17 ki_0 ?_
        refine x_cVe (N := mX12_entry) (d' := 0) (mc := 0) (ms := 0) (cb := 0) (sb := 0) (As := [.int (nI 10), .int (nI 0)]) (st := []) dX12_answers_18 mX12_entry_v lX12_242 rfl rfl (hM1.1) rfl (by decide) (Nat.le_of_ble_eq_true rfl) (PRs_entry (c := 12) hH hq1 (Hb.len htn hb) (by decide)) rfl (sf := fun G2 => []) (fun _ => rfl) (fun G2 hq2 => ?_)
        obtain ⟨hf2, A2, p2, co2, en2, dd2, op2, hM2, hK2, hp2, hc2, hz2⟩ := id hq2
        have hT2 : TpE (A2 27) tp := by rw [hK2.1 27 (by decide) (by decide) (by decide)]; exact hT
        obtain ⟨w1, w2, w3, w4, w5, w6, w7, w8, w9⟩ := hz2 (by rw [putP_f.1]; exact h0)
        have w70 : op2 = os.length + 1 := w7
        subst w70
        have w60 : dd2 = dpt os + 0 := by rw [w6, c5]; rfl
        subst w60
        refine x_aload_n dX12_answers_21 0 rfl ?_
        refine x_dup dX12_answers_22 rfl ?_
        refine x_get (v := .int (nI (os.length + 1))) dX12_answers_23 fX12_258 (hM2.1) rfl ?_
        refine x_iconst dX12_answers_26 ki_1 ?_
        refine x_isubN dX12_answers_27 (by omega) ?_
        refine x_topi (y := nI os.length) (by rw [Nat.add_sub_cancel]) ?_
        refine x_put (fs' := [.int (F 0), .ref (y + 1), .ref (y + 2), .ref (y + 3), .ref (y + 4), .ref (y + 5), .ref (y + 6), .ref (y + 7), .ref (y + 8), .ref (y + 9), .ref (y + 10), .ref (y + 11), .ref (y + 12), .ref (y + 13), .ref (y + 14), .ref (y + 15), .ref (y + 16), .ref (y + 17), .ref (y + 18), .ref (y + 19), .ref (y + 20), .ref (y + 21), .ref (y + 22), .ref (y + 23), .ref (y + 24), .ref (y + 25), .ref (y + 26), .int (nI tn), .int (nI p2), .int (nI ((putP s 12 0).1)), .int (nI sl), .int (F 31), .int (nI en2), .int (nI (dpt os + 0)), .int (nI co2), .int (nI os.length), .int (nI 12), .ref (y + 27), .ref (y + 28), .ref (y + 29), .ref (y + 30), .ref (y + 31), .ref (y + 32), .ref (y + 33), .ref (y + 34), .ref (y + 35), .ref (y + 36), .ref (y + 37), .ref (y + 38), .int (F 49), .int (F 50), .int (F 51), .int (F 52), .int (F 53), .ref (y + 39), .ref (y + 40), .ref (y + 41), .int (F 57), .int (F 58), .ref (y + 42), .ref (y + 43), .ref (y + 44), .ref (y + 45), .int (F 63), .int (F 64)]) dX12_answers_28 fX12_258 (hM2.1) (Nat.le_of_ble_eq_true rfl) rfl rfl rfl ?_
        refine x_geq (G' := xup _ y (modO y (pF (upd F 36 (nI 12)) tn p2 ((putP s 12 0).1) sl en2 (dpt os + 0) co2 os.length))) rfl ?_
        have hM101 := hM2.fld (pF (upd F 36 (nI 12)) tn p2 ((putP s 12 0).1) sl en2 (dpt os + 0) co2 os.length)
        refine x_aload_n dX12_answers_31 0 rfl ?_
        refine x_dup dX12_answers_32 rfl ?_
        refine x_pc (pc' := 33) rfl ?_
        refine x_get (v := .int (nI (dpt os + 0))) dX12_answers_33 fX12_261 (hM101.1) rfl ?_
        refine x_iload_n dX12_answers_36 1 rfl ?_
        refine x_bipush dX12_answers_37 kb_9 ?_
        refine x_icmpN_ne (tgt := 46) dX12_answers_39 (by decide) (by omega) (by omega) (fun c39 => ?_) (fun c39 => ?_)
        · refine x_iconst dX12_answers_46 ki_0 ?_
          refine x_isubN dX12_answers_47 (by omega) ?_
          refine x_topi (y := nI (dpt os)) (by congr 1) ?_
          refine x_put (fs' := [.int (F 0), .ref (y + 1), .ref (y + 2), .ref (y + 3), .ref (y + 4), .ref (y + 5), .ref (y + 6), .ref (y + 7), .ref (y + 8), .ref (y + 9), .ref (y + 10), .ref (y + 11), .ref (y + 12), .ref (y + 13), .ref (y + 14), .ref (y + 15), .ref (y + 16), .ref (y + 17), .ref (y + 18), .ref (y + 19), .ref (y + 20), .ref (y + 21), .ref (y + 22), .ref (y + 23), .ref (y + 24), .ref (y + 25), .ref (y + 26), .int (nI tn), .int (nI p2), .int (nI ((putP s 12 0).1)), .int (nI sl), .int (F 31), .int (nI en2), .int (nI (dpt os)), .int (nI co2), .int (nI os.length), .int (nI 12), .ref (y + 27), .ref (y + 28), .ref (y + 29), .ref (y + 30), .ref (y + 31), .ref (y + 32), .ref (y + 33), .ref (y + 34), .ref (y + 35), .ref (y + 36), .ref (y + 37), .ref (y + 38), .int (F 49), .int (F 50), .int (F 51), .int (F 52), .int (F 53), .ref (y + 39), .ref (y + 40), .ref (y + 41), .int (F 57), .int (F 58), .ref (y + 42), .ref (y + 43), .ref (y + 44), .ref (y + 45), .int (F 63), .int (F 64)]) dX12_answers_48 fX12_261 (hM101.1) (Nat.le_of_ble_eq_true rfl) rfl rfl rfl ?_
          refine x_geq (G' := xup _ y (modO y (pF (upd F 36 (nI 12)) tn p2 ((putP s 12 0).1) sl en2 (dpt os) co2 os.length))) rfl ?_
          have hM102 := hM101.fld (pF (upd F 36 (nI 12)) tn p2 ((putP s 12 0).1) sl en2 (dpt os) co2 os.length)
          refine x_goto (tgt := 0) dX12_answers_51 (by decide) ?_
          exact ih (putP s 12 0) _ (by rw [putP_f.1]; exact h0) (by omega) (fun o2 ho2 => hom o2 (by simp [ho2])) (Hb.put (hb.wk (by rw [pnd_c (by omega)]; omega))) hr1 ⟨hf2, _, _, _, _, _, _, hM102, hK2, hp2, hc2, fun _ => ⟨w1, w2, w3, w4, w5, rfl, rfl, w8.tl, w9⟩⟩
        · exact absurd c39 (by decide)
theorem PRs_ans10 {K : xG} {h y : Nat} {G0 G : xHp} {hl : xHl} {r : xRw} {sc : Nat × Nat × Int32} {A0 : Nat → Nat → Int32} {F : Nat → Int32} {wa sa : Nat → Int64} {tn : Nat} {tp : Nat → Nat} {sl b : Nat} {os : List Nat} {s : xPS} {c0 : Nat} (hH : PH A0 tp tn sl) (h0 : s.1 = 0) (hol : os.length < 401) (hom : ∀ o ∈ os, o < 13) (hb : Hb tn (3 * pnd os + c0) s) (hR : PRs G0 G y hl r sc A0 F wa sa tn tp sl b (dpt os) os s) : xCall K mX12_answers 1 0 0 [.ref y, .int (nI 10)] h G (prsQ G0 h y hl r sc A0 F wa sa tn tp sl b (dpt (anP 10 os s).1) ((anP 10 os s).1) ((anP 10 os s).2)) := by
  refine x_entry (by decide) (ls := [(0, .ref y), (1, .int (nI 10))]) rfl (Nat.le_of_ble_eq_true rfl) ?_
  exact PRs_ans10_loop (c0 := c0) hH os s G h0 hol hom hb rfl hR
theorem PRs_ans11_loop {K : xG} {h y : Nat} {G0 : xHp} {hl : xHl} {r : xRw} {sc : Nat × Nat × Int32} {A0 : Nat → Nat → Int32} {F : Nat → Int32} {wa sa : Nat → Int64} {tn : Nat} {tp : Nat → Nat} {sl b : Nat} {RR : List Nat × xPS} {c0 : Nat} (hH : PH A0 tp tn sl) : ∀ (os : List Nat) (s : xPS) (G1 : xHp), s.1 = 0 → os.length < 401 → (∀ o ∈ os, o < 13) → Hb tn (3 * pnd os + c0) s → anP 11 os s = RR → PRs G0 G1 y hl r sc A0 F wa sa tn tp sl b (dpt os) os s → xV K mX12_answers 1 0 0 h G1 0 [(0, .ref y), (1, .int (nI 11))] [] (prsQ G0 h y hl r sc A0 F wa sa tn tp sl b (dpt RR.1) RR.1 RR.2) := by
  obtain ⟨hT, hlt, htn, hs6⟩ := id hH
  intro os
  induction os with
  | nil =>
    intro s G1 h0 hol hom hb hr hq1
    have hr0 : ([], s) = RR := hr
    obtain ⟨hf1, A1, p1, co1, en1, dd1, op1, hM1, hK1, hp1, hc1, hz1⟩ := id hq1
    have hT1 : TpE (A1 27) tp := by rw [hK1.1 27 (by decide) (by decide) (by decide)]; exact hT
    refine x_aload_n dX12_answers_0 0 rfl ?_
    refine x_cV (N := mX12_top) (d' := 0) (mc := 0) (ms := 0) (cb := 0) (sb := 0) (As := []) (st := []) dX12_answers_1 mX12_top_v lX12_264 rfl rfl (hM1.1) rfl (by decide) (Nat.le_of_ble_eq_true rfl) (PRs_top0 (os := []) hq1 h0) rfl (st1 := [.int (-1)]) rfl ?_
    refine x_iload_n dX12_answers_4 1 rfl ?_
    refine x_icmp_ne (x := (-1)) (y := nI 11) (tgt := 54) dX12_answers_5 (by decide) (fun c5 => ?_) (fun c5 => ?_)
    · exact x_vret dX12_answers_54 rfl (xEx_i G1 (by rw [← hr0]; exact hq1) rfl rfl rfl)
    · exact absurd c5 (by decide)
  | cons o os ih =>
    intro s G1 h0 hol hom hb hr hq1
    have ho13 := hom o (by simp)
    simp only [List.length_cons] at hol
    obtain ⟨hf1, A1, p1, co1, en1, dd1, op1, hM1, hK1, hp1, hc1, hz1⟩ := id hq1
    have hT1 : TpE (A1 27) tp := by rw [hK1.1 27 (by decide) (by decide) (by decide)]; exact hT
    refine x_aload_n dX12_answers_0 0 rfl ?_
    refine x_cV (N := mX12_top) (d' := 0) (mc := 0) (ms := 0) (cb := 0) (sb := 0) (As := []) (st := []) dX12_answers_1 mX12_top_v lX12_264 rfl rfl (hM1.1) rfl (by decide) (Nat.le_of_ble_eq_true rfl) (PRs_top1 hq1 h0 (by omega)) rfl (st1 := [.int (nI o)]) rfl ?_
    refine x_iload_n dX12_answers_4 1 rfl ?_
    refine x_icmpN_ne (tgt := 54) dX12_answers_5 (by decide) (by omega) (by omega) (fun c5 => ?_) (fun c5 => ?_)
    · exact x_vret dX12_answers_54 rfl (xEx_i G1 (by rw [← hr, an_n c5]; exact hq1) rfl rfl rfl)
    · have hr1 : anP 11 os (putP s 13 0) = RR := by rw [← hr, c5]; exact an_y.symm
      refine x_aload_n dX12_answers_8 0 rfl ?_
      refine x_get (v := .int (nI ((s).1))) dX12_answers_9 fX12_187 (hM1.1) rfl ?_
      refine x_ifN_ne (tgt := 54) dX12_answers_12 (by decide) (by omega) (fun c12 => ?_) (fun c12 => ?_)
      · exact absurd h0 c12
      · refine x_aload_n dX12_answers_15 0 rfl ?_
        refine x_iload_n dX12_answers_16 1 rfl ?_
        refine x_pc (pc' := 17) rfl ?_
        refine x_iconst dX12_answers_17 ki_0 ?_
        refine x_cVe (N := mX12_entry) (d' := 0) (mc := 0) (ms := 0) (cb := 0) (sb := 0) (As := [.int (nI 11), .int (nI 0)]) (st := []) dX12_answers_18 mX12_entry_v lX12_242 rfl rfl (hM1.1) rfl (by decide) (Nat.le_of_ble_eq_true rfl) (PRs_entry (c := 13) hH hq1 (Hb.len htn hb) (by decide)) rfl (sf := fun G2 => []) (fun _ => rfl) (fun G2 hq2 => ?_)
        obtain ⟨hf2, A2, p2, co2, en2, dd2, op2, hM2, hK2, hp2, hc2, hz2⟩ := id hq2
        have hT2 : TpE (A2 27) tp := by rw [hK2.1 27 (by decide) (by decide) (by decide)]; exact hT
        obtain ⟨w1, w2, w3, w4, w5, w6, w7, w8, w9⟩ := hz2 (by rw [putP_f.1]; exact h0)
        have w70 : op2 = os.length + 1 := w7
        subst w70
        have w60 : dd2 = dpt os + 0 := by rw [w6, c5]; rfl
        subst w60
        refine x_aload_n dX12_answers_21 0 rfl ?_
        refine x_dup dX12_answers_22 rfl ?_
        refine x_get (v := .int (nI (os.length + 1))) dX12_answers_23 fX12_258 (hM2.1) rfl ?_
        refine x_iconst dX12_answers_26 ki_1 ?_
        refine x_isubN dX12_answers_27 (by omega) ?_
        refine x_topi (y := nI os.length) (by rw [Nat.add_sub_cancel]) ?_
        refine x_put (fs' := [.int (F 0), .ref (y + 1), .ref (y + 2), .ref (y + 3), .ref (y + 4), .ref (y + 5), .ref (y + 6), .ref (y + 7), .ref (y + 8), .ref (y + 9), .ref (y + 10), .ref (y + 11), .ref (y + 12), .ref (y + 13), .ref (y + 14), .ref (y + 15), .ref (y + 16), .ref (y + 17), .ref (y + 18), .ref (y + 19), .ref (y + 20), .ref (y + 21), .ref (y + 22), .ref (y + 23), .ref (y + 24), .ref (y + 25), .ref (y + 26), .int (nI tn), .int (nI p2), .int (nI ((putP s 13 0).1)), .int (nI sl), .int (F 31), .int (nI en2), .int (nI (dpt os + 0)), .int (nI co2), .int (nI os.length), .int (nI 12), .ref (y + 27), .ref (y + 28), .ref (y + 29), .ref (y + 30), .ref (y + 31), .ref (y + 32), .ref (y + 33), .ref (y + 34), .ref (y + 35), .ref (y + 36), .ref (y + 37), .ref (y + 38), .int (F 49), .int (F 50), .int (F 51), .int (F 52), .int (F 53), .ref (y + 39), .ref (y + 40), .ref (y + 41), .int (F 57), .int (F 58), .ref (y + 42), .ref (y + 43), .ref (y + 44), .ref (y + 45), .int (F 63), .int (F 64)]) dX12_answers_28 fX12_258 (hM2.1) (Nat.le_of_ble_eq_true rfl) rfl rfl rfl ?_
        refine x_geq (G' := xup _ y (modO y (pF (upd F 36 (nI 12)) tn p2 ((putP s 13 0).1) sl en2 (dpt os + 0) co2 os.length))) rfl ?_
        have hM101 := hM2.fld (pF (upd F 36 (nI 12)) tn p2 ((putP s 13 0).1) sl en2 (dpt os + 0) co2 os.length)
        refine x_aload_n dX12_answers_31 0 rfl ?_
        refine x_dup dX12_answers_32 rfl ?_
        refine x_pc (pc' := 33) rfl ?_
        refine x_get (v := .int (nI (dpt os + 0))) dX12_answers_33 fX12_261 (hM101.1) rfl ?_
        refine x_iload_n dX12_answers_36 1 rfl ?_
        refine x_bipush dX12_answers_37 kb_9 ?_
        refine x_icmpN_ne (tgt := 46) dX12_answers_39 (by decide) (by omega) (by omega) (fun c39 => ?_) (fun c39 => ?_)
        · refine x_iconst dX12_answers_46 ki_0 ?_
          refine x_isubN dX12_answers_47 (by omega) ?_
          refine x_topi (y := nI (dpt os)) (by congr 1) ?_
          refine x_put (fs' := [.int (F 0), .ref (y + 1), .ref (y + 2), .ref (y + 3), .ref (y + 4), .ref (y + 5), .ref (y + 6), .ref (y + 7), .ref (y + 8), .ref (y + 9), .ref (y + 10), .ref (y + 11), .ref (y + 12), .ref (y + 13), .ref (y + 14), .ref (y + 15), .ref (y + 16), .ref (y + 17), .ref (y + 18), .ref (y + 19), .ref (y + 20), .ref (y + 21), .ref (y + 22), .ref (y + 23), .ref (y + 24), .ref (y + 25), .ref (y + 26), .int (nI tn), .int (nI p2), .int (nI ((putP s 13 0).1)), .int (nI sl), .int (F 31), .int (nI en2), .int (nI (dpt os)), .int (nI co2), .int (nI os.length), .int (nI 12), .ref (y + 27), .ref (y + 28), .ref (y + 29), .ref (y + 30), .ref (y + 31), .ref (y + 32), .ref (y + 33), .ref (y + 34), .ref (y + 35), .ref (y + 36), .ref (y + 37), .ref (y + 38), .int (F 49), .int (F 50), .int (F 51), .int (F 52), .int (F 53), .ref (y + 39), .ref (y + 40), .ref (y + 41), .int (F 57), .int (F 58), .ref (y + 42), .ref (y + 43), .ref (y + 44), .ref (y + 45), .int (F 63), .int (F 64)]) dX12_answers_48 fX12_261 (hM101.1) (Nat.le_of_ble_eq_true rfl) rfl rfl rfl ?_
          refine x_geq (G' := xup _ y (modO y (pF (upd F 36 (nI 12)) tn p2 ((putP s 13 0).1) sl en2 (dpt os) co2 os.length))) rfl ?_
          have hM102 := hM101.fld (pF (upd F 36 (nI 12)) tn p2 ((putP s 13 0).1) sl en2 (dpt os) co2 os.length)
          refine x_goto (tgt := 0) dX12_answers_51 (by decide) ?_
          exact ih (putP s 13 0) _ (by rw [putP_f.1]; exact h0) (by omega) (fun o2 ho2 => hom o2 (by simp [ho2])) (Hb.put (hb.wk (by rw [pnd_c (by omega)]; omega))) hr1 ⟨hf2, _, _, _, _, _, _, hM102, hK2, hp2, hc2, fun _ => ⟨w1, w2, w3, w4, w5, rfl, rfl, w8.tl, w9⟩⟩
        · exact absurd c39 (by decide)
theorem PRs_ans11 {K : xG} {h y : Nat} {G0 G : xHp} {hl : xHl} {r : xRw} {sc : Nat × Nat × Int32} {A0 : Nat → Nat → Int32} {F : Nat → Int32} {wa sa : Nat → Int64} {tn : Nat} {tp : Nat → Nat} {sl b : Nat} {os : List Nat} {s : xPS} {c0 : Nat} (hH : PH A0 tp tn sl) (h0 : s.1 = 0) (hol : os.length < 401) (hom : ∀ o ∈ os, o < 13) (hb : Hb tn (3 * pnd os + c0) s) (hR : PRs G0 G y hl r sc A0 F wa sa tn tp sl b (dpt os) os s) : xCall K mX12_answers 1 0 0 [.ref y, .int (nI 11)] h G (prsQ G0 h y hl r sc A0 F wa sa tn tp sl b (dpt (anP 11 os s).1) ((anP 11 os s).1) ((anP 11 os s).2)) := by
  refine x_entry (by decide) (ls := [(0, .ref y), (1, .int (nI 11))]) rfl (Nat.le_of_ble_eq_true rfl) ?_
  exact PRs_ans11_loop (c0 := c0) hH os s G h0 hol hom hb rfl hR
theorem PR_ans9_loop {K : xG} {h y : Nat} {G0 : xHp} {hl : xHl} {r : xRw} {sc : Nat × Nat × Int32} {A0 : Nat → Nat → Int32} {F : Nat → Int32} {wa sa : Nat → Int64} {tn : Nat} {tp : Nat → Nat} {sl b : Nat} {RR : List Nat × xPS} {c0 : Nat} (hH : PH A0 tp tn sl) : ∀ (os : List Nat) (s : xPS) (G1 : xHp), s.1 = 0 → os.length < 401 → (∀ o ∈ os, o < 13) → Hb tn (3 * pnd os + c0) s → anP 9 os s = RR → PR G0 G1 y hl r sc A0 F wa sa tn tp sl b (dpt os) os s → xV K mX12_answers 1 0 0 h G1 0 [(0, .ref y), (1, .int (nI 9))] [] (prQ G0 h y hl r sc A0 F wa sa tn tp sl b (dpt RR.1) RR.1 RR.2) := by
  obtain ⟨hT, hlt, htn, hs6⟩ := id hH
  intro os
  induction os with
  | nil =>
    intro s G1 h0 hol hom hb hr hq1
    have hr0 : ([], s) = RR := hr
    obtain ⟨hf1, A1, p1, co1, en1, dd1, op1, hM1, hK1, hp1, hc1, hz1⟩ := id hq1
    have hT1 : TpE (A1 27) tp := by rw [hK1.1 27 (by decide) (by decide) (by decide)]; exact hT
    refine x_aload_n dX12_answers_0 0 rfl ?_
    refine x_cV (N := mX12_top) (d' := 0) (mc := 0) (ms := 0) (cb := 0) (sb := 0) (As := []) (st := []) dX12_answers_1 mX12_top_v lX12_264 rfl rfl (hM1.1) rfl (by decide) (Nat.le_of_ble_eq_true rfl) (PR_top0 (os := []) hq1 h0) rfl (st1 := [.int (-1)]) rfl ?_
    refine x_iload_n dX12_answers_4 1 rfl ?_
    refine x_icmp_ne (x := (-1)) (y := nI 9) (tgt := 54) dX12_answers_5 (by decide) (fun c5 => ?_) (fun c5 => ?_)
    · exact x_vret dX12_answers_54 rfl (xEx_i G1 (by rw [← hr0]; exact hq1) rfl rfl rfl)
    · exact absurd c5 (by decide)
  | cons o os ih =>
    intro s G1 h0 hol hom hb hr hq1
    have ho13 := hom o (by simp)
    simp only [List.length_cons] at hol
    obtain ⟨hf1, A1, p1, co1, en1, dd1, op1, hM1, hK1, hp1, hc1, hz1⟩ := id hq1
    have hT1 : TpE (A1 27) tp := by rw [hK1.1 27 (by decide) (by decide) (by decide)]; exact hT
    refine x_aload_n dX12_answers_0 0 rfl ?_
    refine x_cV (N := mX12_top) (d' := 0) (mc := 0) (ms := 0) (cb := 0) (sb := 0) (As := []) (st := []) dX12_answers_1 mX12_top_v lX12_264 rfl rfl (hM1.1) rfl (by decide) (Nat.le_of_ble_eq_true rfl) (PR_top1 hq1 h0 (by omega)) rfl (st1 := [.int (nI o)]) rfl ?_
    refine x_iload_n dX12_answers_4 1 rfl ?_
    refine x_icmpN_ne (tgt := 54) dX12_answers_5 (by decide) (by omega) (by omega) (fun c5 => ?_) (fun c5 => ?_)
    · exact x_vret dX12_answers_54 rfl (xEx_i G1 (by rw [← hr, an_n c5]; exact hq1) rfl rfl rfl)
    · have hr1 : anP 9 os (putP s 14 0) = RR := by rw [← hr, c5]; exact an_y.symm
      refine x_aload_n dX12_answers_8 0 rfl ?_
      refine x_get (v := .int (nI ((s).1))) dX12_answers_9 fX12_187 (hM1.1) rfl ?_
      refine x_ifN_ne (tgt := 54) dX12_answers_12 (by decide) (by omega) (fun c12 => ?_) (fun c12 => ?_)
      · exact absurd h0 c12
      · refine x_aload_n dX12_answers_15 0 rfl ?_
        refine x_iload_n dX12_answers_16 1 rfl ?_
        refine x_pc (pc' := 17) rfl ?_
        refine x_iconst dX12_answers_17 ki_0 ?_
        refine x_cVe (N := mX12_entry) (d' := 0) (mc := 0) (ms := 0) (cb := 0) (sb := 0) (As := [.int (nI 9), .int (nI 0)]) (st := []) dX12_answers_18 mX12_entry_v lX12_242 rfl rfl (hM1.1) rfl (by decide) (Nat.le_of_ble_eq_true rfl) (PR_entry (c := 14) hH hq1 (Hb.len htn hb) (by decide)) rfl (sf := fun G2 => []) (fun _ => rfl) (fun G2 hq2 => ?_)
        obtain ⟨hf2, A2, p2, co2, en2, dd2, op2, hM2, hK2, hp2, hc2, hz2⟩ := id hq2
        have hT2 : TpE (A2 27) tp := by rw [hK2.1 27 (by decide) (by decide) (by decide)]; exact hT
        obtain ⟨w1, w2, w3, w4, w5, w6, w7, w8, w9⟩ := hz2 (by rw [putP_f.1]; exact h0)
        have w70 : op2 = os.length + 1 := w7
        subst w70
        have w60 : dd2 = dpt os + 1 := by rw [w6, c5]; rfl
        subst w60
        refine x_aload_n dX12_answers_21 0 rfl ?_
        refine x_dup dX12_answers_22 rfl ?_
        refine x_get (v := .int (nI (os.length + 1))) dX12_answers_23 fX12_258 (hM2.1) rfl ?_
        refine x_iconst dX12_answers_26 ki_1 ?_
        refine x_isubN dX12_answers_27 (by omega) ?_
        refine x_topi (y := nI os.length) (by rw [Nat.add_sub_cancel]) ?_
        refine x_put (fs' := [.int (F 0), .ref (y + 1), .ref (y + 2), .ref (y + 3), .ref (y + 4), .ref (y + 5), .ref (y + 6), .ref (y + 7), .ref (y + 8), .ref (y + 9), .ref (y + 10), .ref (y + 11), .ref (y + 12), .ref (y + 13), .ref (y + 14), .ref (y + 15), .ref (y + 16), .ref (y + 17), .ref (y + 18), .ref (y + 19), .ref (y + 20), .ref (y + 21), .ref (y + 22), .ref (y + 23), .ref (y + 24), .ref (y + 25), .ref (y + 26), .int (nI tn), .int (nI p2), .int (nI ((putP s 14 0).1)), .int (nI sl), .int (F 31), .int (nI en2), .int (nI (dpt os + 1)), .int (nI co2), .int (nI os.length), .int (nI 12), .ref (y + 27), .ref (y + 28), .ref (y + 29), .ref (y + 30), .ref (y + 31), .ref (y + 32), .ref (y + 33), .ref (y + 34), .ref (y + 35), .ref (y + 36), .ref (y + 37), .ref (y + 38), .int (F 49), .int (F 50), .int (F 51), .int (F 52), .int (F 53), .ref (y + 39), .ref (y + 40), .ref (y + 41), .int (F 57), .int (F 58), .ref (y + 42), .ref (y + 43), .ref (y + 44), .ref (y + 45), .int (F 63), .int (F 64)]) dX12_answers_28 fX12_258 (hM2.1) (Nat.le_of_ble_eq_true rfl) rfl rfl rfl ?_
        refine x_geq (G' := xup _ y (modO y (pF (upd F 36 (nI 12)) tn p2 ((putP s 14 0).1) sl en2 (dpt os + 1) co2 os.length))) rfl ?_
        have hM101 := hM2.fld (pF (upd F 36 (nI 12)) tn p2 ((putP s 14 0).1) sl en2 (dpt os + 1) co2 os.length)
        refine x_aload_n dX12_answers_31 0 rfl ?_
        refine x_dup dX12_answers_32 rfl ?_
        refine x_pc (pc' := 33) rfl ?_
        refine x_get (v := .int (nI (dpt os + 1))) dX12_answers_33 fX12_261 (hM101.1) rfl ?_
        refine x_iload_n dX12_answers_36 1 rfl ?_
        refine x_bipush dX12_answers_37 kb_9 ?_
        refine x_icmpN_ne (tgt := 46) dX12_answers_39 (by decide) (by omega) (by omega) (fun c39 => ?_) (fun c39 => ?_)
        · exact absurd c39 (by decide)
        · refine x_iconst dX12_answers_42 ki_1 ?_
          refine x_goto (tgt := 47) dX12_answers_43 (by decide) ?_
          refine x_isubN dX12_answers_47 (by omega) ?_
          refine x_topi (y := nI (dpt os)) (by congr 1) ?_
          refine x_put (fs' := [.int (F 0), .ref (y + 1), .ref (y + 2), .ref (y + 3), .ref (y + 4), .ref (y + 5), .ref (y + 6), .ref (y + 7), .ref (y + 8), .ref (y + 9), .ref (y + 10), .ref (y + 11), .ref (y + 12), .ref (y + 13), .ref (y + 14), .ref (y + 15), .ref (y + 16), .ref (y + 17), .ref (y + 18), .ref (y + 19), .ref (y + 20), .ref (y + 21), .ref (y + 22), .ref (y + 23), .ref (y + 24), .ref (y + 25), .ref (y + 26), .int (nI tn), .int (nI p2), .int (nI ((putP s 14 0).1)), .int (nI sl), .int (F 31), .int (nI en2), .int (nI (dpt os)), .int (nI co2), .int (nI os.length), .int (nI 12), .ref (y + 27), .ref (y + 28), .ref (y + 29), .ref (y + 30), .ref (y + 31), .ref (y + 32), .ref (y + 33), .ref (y + 34), .ref (y + 35), .ref (y + 36), .ref (y + 37), .ref (y + 38), .int (F 49), .int (F 50), .int (F 51), .int (F 52), .int (F 53), .ref (y + 39), .ref (y + 40), .ref (y + 41), .int (F 57), .int (F 58), .ref (y + 42), .ref (y + 43), .ref (y + 44), .ref (y + 45), .int (F 63), .int (F 64)]) dX12_answers_48 fX12_261 (hM101.1) (Nat.le_of_ble_eq_true rfl) rfl rfl rfl ?_
          refine x_geq (G' := xup _ y (modO y (pF (upd F 36 (nI 12)) tn p2 ((putP s 14 0).1) sl en2 (dpt os) co2 os.length))) rfl ?_
          have hM102 := hM101.fld (pF (upd F 36 (nI 12)) tn p2 ((putP s 14 0).1) sl en2 (dpt os) co2 os.length)
          refine x_goto (tgt := 0) dX12_answers_51 (by decide) ?_
          exact ih (putP s 14 0) _ (by rw [putP_f.1]; exact h0) (by omega) (fun o2 ho2 => hom o2 (by simp [ho2])) (Hb.put (hb.wk (by rw [pnd_c (by omega)]; omega))) hr1 ⟨hf2, _, _, _, _, _, _, hM102, hK2, hp2, hc2, fun _ => ⟨w1, w2, w3, w4, w5, rfl, rfl, w8.tl, w9⟩⟩
theorem PR_ans9 {K : xG} {h y : Nat} {G0 G : xHp} {hl : xHl} {r : xRw} {sc : Nat × Nat × Int32} {A0 : Nat → Nat → Int32} {F : Nat → Int32} {wa sa : Nat → Int64} {tn : Nat} {tp : Nat → Nat} {sl b : Nat} {os : List Nat} {s : xPS} {c0 : Nat} (hH : PH A0 tp tn sl) (h0 : s.1 = 0) (hol : os.length < 401) (hom : ∀ o ∈ os, o < 13) (hb : Hb tn (3 * pnd os + c0) s) (hR : PR G0 G y hl r sc A0 F wa sa tn tp sl b (dpt os) os s) : xCall K mX12_answers 1 0 0 [.ref y, .int (nI 9)] h G (prQ G0 h y hl r sc A0 F wa sa tn tp sl b (dpt (anP 9 os s).1) ((anP 9 os s).1) ((anP 9 os s).2)) := by
  refine x_entry (by decide) (ls := [(0, .ref y), (1, .int (nI 9))]) rfl (Nat.le_of_ble_eq_true rfl) ?_
  exact PR_ans9_loop (c0 := c0) hH os s G h0 hol hom hb rfl hR
theorem PR_ans10_loop {K : xG} {h y : Nat} {G0 : xHp} {hl : xHl} {r : xRw} {sc : Nat × Nat × Int32} {A0 : Nat → Nat → Int32} {F : Nat → Int32} {wa sa : Nat → Int64} {tn : Nat} {tp : Nat → Nat} {sl b : Nat} {RR : List Nat × xPS} {c0 : Nat} (hH : PH A0 tp tn sl) : ∀ (os : List Nat) (s : xPS) (G1 : xHp), s.1 = 0 → os.length < 401 → (∀ o ∈ os, o < 13) → Hb tn (3 * pnd os + c0) s → anP 10 os s = RR → PR G0 G1 y hl r sc A0 F wa sa tn tp sl b (dpt os) os s → xV K mX12_answers 1 0 0 h G1 0 [(0, .ref y), (1, .int (nI 10))] [] (prQ G0 h y hl r sc A0 F wa sa tn tp sl b (dpt RR.1) RR.1 RR.2) := by
  obtain ⟨hT, hlt, htn, hs6⟩ := id hH
  intro os
  induction os with
  | nil =>
    intro s G1 h0 hol hom hb hr hq1
    have hr0 : ([], s) = RR := hr
    obtain ⟨hf1, A1, p1, co1, en1, dd1, op1, hM1, hK1, hp1, hc1, hz1⟩ := id hq1
    have hT1 : TpE (A1 27) tp := by rw [hK1.1 27 (by decide) (by decide) (by decide)]; exact hT
    refine x_aload_n dX12_answers_0 0 rfl ?_
    refine x_cV (N := mX12_top) (d' := 0) (mc := 0) (ms := 0) (cb := 0) (sb := 0) (As := []) (st := []) dX12_answers_1 mX12_top_v lX12_264 rfl rfl (hM1.1) rfl (by decide) (Nat.le_of_ble_eq_true rfl) (PR_top0 (os := []) hq1 h0) rfl (st1 := [.int (-1)]) rfl ?_
    refine x_iload_n dX12_answers_4 1 rfl ?_
    refine x_icmp_ne (x := (-1)) (y := nI 10) (tgt := 54) dX12_answers_5 (by decide) (fun c5 => ?_) (fun c5 => ?_)
    · exact x_vret dX12_answers_54 rfl (xEx_i G1 (by rw [← hr0]; exact hq1) rfl rfl rfl)
    · exact absurd c5 (by decide)
  | cons o os ih =>
    intro s G1 h0 hol hom hb hr hq1
    have ho13 := hom o (by simp)
    simp only [List.length_cons] at hol
    obtain ⟨hf1, A1, p1, co1, en1, dd1, op1, hM1, hK1, hp1, hc1, hz1⟩ := id hq1
    have hT1 : TpE (A1 27) tp := by rw [hK1.1 27 (by decide) (by decide) (by decide)]; exact hT
    refine x_aload_n dX12_answers_0 0 rfl ?_
    refine x_cV (N := mX12_top) (d' := 0) (mc := 0) (ms := 0) (cb := 0) (sb := 0) (As := []) (st := []) dX12_answers_1 mX12_top_v lX12_264 rfl rfl (hM1.1) rfl (by decide) (Nat.le_of_ble_eq_true rfl) (PR_top1 hq1 h0 (by omega)) rfl (st1 := [.int (nI o)]) rfl ?_
    refine x_iload_n dX12_answers_4 1 rfl ?_
    refine x_icmpN_ne (tgt := 54) dX12_answers_5 (by decide) (by omega) (by omega) (fun c5 => ?_) (fun c5 => ?_)
    · exact x_vret dX12_answers_54 rfl (xEx_i G1 (by rw [← hr, an_n c5]; exact hq1) rfl rfl rfl)
    · have hr1 : anP 10 os (putP s 12 0) = RR := by rw [← hr, c5]; exact an_y.symm
      refine x_aload_n dX12_answers_8 0 rfl ?_
      refine x_get (v := .int (nI ((s).1))) dX12_answers_9 fX12_187 (hM1.1) rfl ?_
      refine x_ifN_ne (tgt := 54) dX12_answers_12 (by decide) (by omega) (fun c12 => ?_) (fun c12 => ?_)
      · exact absurd h0 c12
      · refine x_aload_n dX12_answers_15 0 rfl ?_
        refine x_iload_n dX12_answers_16 1 rfl ?_
        refine x_pc (pc' := 17) rfl ?_
        refine x_iconst dX12_answers_17 ki_0 ?_
        refine x_cVe (N := mX12_entry) (d' := 0) (mc := 0) (ms := 0) (cb := 0) (sb := 0) (As := [.int (nI 10), .int (nI 0)]) (st := []) dX12_answers_18 mX12_entry_v lX12_242 rfl rfl (hM1.1) rfl (by decide) (Nat.le_of_ble_eq_true rfl) (PR_entry (c := 12) hH hq1 (Hb.len htn hb) (by decide)) rfl (sf := fun G2 => []) (fun _ => rfl) (fun G2 hq2 => ?_)
        obtain ⟨hf2, A2, p2, co2, en2, dd2, op2, hM2, hK2, hp2, hc2, hz2⟩ := id hq2
        have hT2 : TpE (A2 27) tp := by rw [hK2.1 27 (by decide) (by decide) (by decide)]; exact hT
        obtain ⟨w1, w2, w3, w4, w5, w6, w7, w8, w9⟩ := hz2 (by rw [putP_f.1]; exact h0)
        have w70 : op2 = os.length + 1 := w7
        subst w70
        have w60 : dd2 = dpt os + 0 := by rw [w6, c5]; rfl
        subst w60
        refine x_aload_n dX12_answers_21 0 rfl ?_
        refine x_dup dX12_answers_22 rfl ?_
        refine x_get (v := .int (nI (os.length + 1))) dX12_answers_23 fX12_258 (hM2.1) rfl ?_
        refine x_iconst dX12_answers_26 ki_1 ?_
        refine x_isubN dX12_answers_27 (by omega) ?_
        refine x_topi (y := nI os.length) (by rw [Nat.add_sub_cancel]) ?_
        refine x_put (fs' := [.int (F 0), .ref (y + 1), .ref (y + 2), .ref (y + 3), .ref (y + 4), .ref (y + 5), .ref (y + 6), .ref (y + 7), .ref (y + 8), .ref (y + 9), .ref (y + 10), .ref (y + 11), .ref (y + 12), .ref (y + 13), .ref (y + 14), .ref (y + 15), .ref (y + 16), .ref (y + 17), .ref (y + 18), .ref (y + 19), .ref (y + 20), .ref (y + 21), .ref (y + 22), .ref (y + 23), .ref (y + 24), .ref (y + 25), .ref (y + 26), .int (nI tn), .int (nI p2), .int (nI ((putP s 12 0).1)), .int (nI sl), .int (F 31), .int (nI en2), .int (nI (dpt os + 0)), .int (nI co2), .int (nI os.length), .int (nI 12), .ref (y + 27), .ref (y + 28), .ref (y + 29), .ref (y + 30), .ref (y + 31), .ref (y + 32), .ref (y + 33), .ref (y + 34), .ref (y + 35), .ref (y + 36), .ref (y + 37), .ref (y + 38), .int (F 49), .int (F 50), .int (F 51), .int (F 52), .int (F 53), .ref (y + 39), .ref (y + 40), .ref (y + 41), .int (F 57), .int (F 58), .ref (y + 42), .ref (y + 43), .ref (y + 44), .ref (y + 45), .int (F 63), .int (F 64)]) dX12_answers_28 fX12_258 (hM2.1) (Nat.le_of_ble_eq_true rfl) rfl rfl rfl ?_
        refine x_geq (G' := xup _ y (modO y (pF (upd F 36 (nI 12)) tn p2 ((putP s 12 0).1) sl en2 (dpt os + 0) co2 os.length))) rfl ?_
        have hM101 := hM2.fld (pF (upd F 36 (nI 12)) tn p2 ((putP s 12 0).1) sl en2 (dpt os + 0) co2 os.length)
        refine x_aload_n dX12_answers_31 0 rfl ?_
        refine x_dup dX12_answers_32 rfl ?_
        refine x_pc (pc' := 33) rfl ?_
        refine x_get (v := .int (nI (dpt os + 0))) dX12_answers_33 fX12_261 (hM101.1) rfl ?_
        refine x_iload_n dX12_answers_36 1 rfl ?_
        refine x_bipush dX12_answers_37 kb_9 ?_
        refine x_icmpN_ne (tgt := 46) dX12_answers_39 (by decide) (by omega) (by omega) (fun c39 => ?_) (fun c39 => ?_)
        · refine x_iconst dX12_answers_46 ki_0 ?_
          refine x_isubN dX12_answers_47 (by omega) ?_
          refine x_topi (y := nI (dpt os)) (by congr 1) ?_
          refine x_put (fs' := [.int (F 0), .ref (y + 1), .ref (y + 2), .ref (y + 3), .ref (y + 4), .ref (y + 5), .ref (y + 6), .ref (y + 7), .ref (y + 8), .ref (y + 9), .ref (y + 10), .ref (y + 11), .ref (y + 12), .ref (y + 13), .ref (y + 14), .ref (y + 15), .ref (y + 16), .ref (y + 17), .ref (y + 18), .ref (y + 19), .ref (y + 20), .ref (y + 21), .ref (y + 22), .ref (y + 23), .ref (y + 24), .ref (y + 25), .ref (y + 26), .int (nI tn), .int (nI p2), .int (nI ((putP s 12 0).1)), .int (nI sl), .int (F 31), .int (nI en2), .int (nI (dpt os)), .int (nI co2), .int (nI os.length), .int (nI 12), .ref (y + 27), .ref (y + 28), .ref (y + 29), .ref (y + 30), .ref (y + 31), .ref (y + 32), .ref (y + 33), .ref (y + 34), .ref (y + 35), .ref (y + 36), .ref (y + 37), .ref (y + 38), .int (F 49), .int (F 50), .int (F 51), .int (F 52), .int (F 53), .ref (y + 39), .ref (y + 40), .ref (y + 41), .int (F 57), .int (F 58), .ref (y + 42), .ref (y + 43), .ref (y + 44), .ref (y + 45), .int (F 63), .int (F 64)]) dX12_answers_48 fX12_261 (hM101.1) (Nat.le_of_ble_eq_true rfl) rfl rfl rfl ?_
          refine x_geq (G' := xup _ y (modO y (pF (upd F 36 (nI 12)) tn p2 ((putP s 12 0).1) sl en2 (dpt os) co2 os.length))) rfl ?_
          have hM102 := hM101.fld (pF (upd F 36 (nI 12)) tn p2 ((putP s 12 0).1) sl en2 (dpt os) co2 os.length)
          refine x_goto (tgt := 0) dX12_answers_51 (by decide) ?_
          exact ih (putP s 12 0) _ (by rw [putP_f.1]; exact h0) (by omega) (fun o2 ho2 => hom o2 (by simp [ho2])) (Hb.put (hb.wk (by rw [pnd_c (by omega)]; omega))) hr1 ⟨hf2, _, _, _, _, _, _, hM102, hK2, hp2, hc2, fun _ => ⟨w1, w2, w3, w4, w5, rfl, rfl, w8.tl, w9⟩⟩
        · exact absurd c39 (by decide)
theorem PR_ans10 {K : xG} {h y : Nat} {G0 G : xHp} {hl : xHl} {r : xRw} {sc : Nat × Nat × Int32} {A0 : Nat → Nat → Int32} {F : Nat → Int32} {wa sa : Nat → Int64} {tn : Nat} {tp : Nat → Nat} {sl b : Nat} {os : List Nat} {s : xPS} {c0 : Nat} (hH : PH A0 tp tn sl) (h0 : s.1 = 0) (hol : os.length < 401) (hom : ∀ o ∈ os, o < 13) (hb : Hb tn (3 * pnd os + c0) s) (hR : PR G0 G y hl r sc A0 F wa sa tn tp sl b (dpt os) os s) : xCall K mX12_answers 1 0 0 [.ref y, .int (nI 10)] h G (prQ G0 h y hl r sc A0 F wa sa tn tp sl b (dpt (anP 10 os s).1) ((anP 10 os s).1) ((anP 10 os s).2)) := by
  refine x_entry (by decide) (ls := [(0, .ref y), (1, .int (nI 10))]) rfl (Nat.le_of_ble_eq_true rfl) ?_
  exact PR_ans10_loop (c0 := c0) hH os s G h0 hol hom hb rfl hR
theorem PR_ans11_loop {K : xG} {h y : Nat} {G0 : xHp} {hl : xHl} {r : xRw} {sc : Nat × Nat × Int32} {A0 : Nat → Nat → Int32} {F : Nat → Int32} {wa sa : Nat → Int64} {tn : Nat} {tp : Nat → Nat} {sl b : Nat} {RR : List Nat × xPS} {c0 : Nat} (hH : PH A0 tp tn sl) : ∀ (os : List Nat) (s : xPS) (G1 : xHp), s.1 = 0 → os.length < 401 → (∀ o ∈ os, o < 13) → Hb tn (3 * pnd os + c0) s → anP 11 os s = RR → PR G0 G1 y hl r sc A0 F wa sa tn tp sl b (dpt os) os s → xV K mX12_answers 1 0 0 h G1 0 [(0, .ref y), (1, .int (nI 11))] [] (prQ G0 h y hl r sc A0 F wa sa tn tp sl b (dpt RR.1) RR.1 RR.2) := by
  obtain ⟨hT, hlt, htn, hs6⟩ := id hH
  intro os
  induction os with
  | nil =>
    intro s G1 h0 hol hom hb hr hq1
    have hr0 : ([], s) = RR := hr
    obtain ⟨hf1, A1, p1, co1, en1, dd1, op1, hM1, hK1, hp1, hc1, hz1⟩ := id hq1
    have hT1 : TpE (A1 27) tp := by rw [hK1.1 27 (by decide) (by decide) (by decide)]; exact hT
    refine x_aload_n dX12_answers_0 0 rfl ?_
    refine x_cV (N := mX12_top) (d' := 0) (mc := 0) (ms := 0) (cb := 0) (sb := 0) (As := []) (st := []) dX12_answers_1 mX12_top_v lX12_264 rfl rfl (hM1.1) rfl (by decide) (Nat.le_of_ble_eq_true rfl) (PR_top0 (os := []) hq1 h0) rfl (st1 := [.int (-1)]) rfl ?_
    refine x_iload_n dX12_answers_4 1 rfl ?_
    refine x_icmp_ne (x := (-1)) (y := nI 11) (tgt := 54) dX12_answers_5 (by decide) (fun c5 => ?_) (fun c5 => ?_)
    · exact x_vret dX12_answers_54 rfl (xEx_i G1 (by rw [← hr0]; exact hq1) rfl rfl rfl)
    · exact absurd c5 (by decide)
  | cons o os ih =>
    intro s G1 h0 hol hom hb hr hq1
    have ho13 := hom o (by simp)
    simp only [List.length_cons] at hol
    obtain ⟨hf1, A1, p1, co1, en1, dd1, op1, hM1, hK1, hp1, hc1, hz1⟩ := id hq1
    have hT1 : TpE (A1 27) tp := by rw [hK1.1 27 (by decide) (by decide) (by decide)]; exact hT
    refine x_aload_n dX12_answers_0 0 rfl ?_
    refine x_cV (N := mX12_top) (d' := 0) (mc := 0) (ms := 0) (cb := 0) (sb := 0) (As := []) (st := []) dX12_answers_1 mX12_top_v lX12_264 rfl rfl (hM1.1) rfl (by decide) (Nat.le_of_ble_eq_true rfl) (PR_top1 hq1 h0 (by omega)) rfl (st1 := [.int (nI o)]) rfl ?_
    refine x_iload_n dX12_answers_4 1 rfl ?_
    refine x_icmpN_ne (tgt := 54) dX12_answers_5 (by decide) (by omega) (by omega) (fun c5 => ?_) (fun c5 => ?_)
    · exact x_vret dX12_answers_54 rfl (xEx_i G1 (by rw [← hr, an_n c5]; exact hq1) rfl rfl rfl)
    · have hr1 : anP 11 os (putP s 13 0) = RR := by rw [← hr, c5]; exact an_y.symm
      refine x_aload_n dX12_answers_8 0 rfl ?_
      refine x_get (v := .int (nI ((s).1))) dX12_answers_9 fX12_187 (hM1.1) rfl ?_
      refine x_ifN_ne (tgt := 54) dX12_answers_12 (by decide) (by omega) (fun c12 => ?_) (fun c12 => ?_)
      · exact absurd h0 c12
      · refine x_aload_n dX12_answers_15 0 rfl ?_
        refine x_iload_n dX12_answers_16 1 rfl ?_
        refine x_pc (pc' := 17) rfl ?_
        refine x_iconst dX12_answers_17 ki_0 ?_
        refine x_cVe (N := mX12_entry) (d' := 0) (mc := 0) (ms := 0) (cb := 0) (sb := 0) (As := [.int (nI 11), .int (nI 0)]) (st := []) dX12_answers_18 mX12_entry_v lX12_242 rfl rfl (hM1.1) rfl (by decide) (Nat.le_of_ble_eq_true rfl) (PR_entry (c := 13) hH hq1 (Hb.len htn hb) (by decide)) rfl (sf := fun G2 => []) (fun _ => rfl) (fun G2 hq2 => ?_)
        obtain ⟨hf2, A2, p2, co2, en2, dd2, op2, hM2, hK2, hp2, hc2, hz2⟩ := id hq2
        have hT2 : TpE (A2 27) tp := by rw [hK2.1 27 (by decide) (by decide) (by decide)]; exact hT
        obtain ⟨w1, w2, w3, w4, w5, w6, w7, w8, w9⟩ := hz2 (by rw [putP_f.1]; exact h0)
        have w70 : op2 = os.length + 1 := w7
        subst w70
        have w60 : dd2 = dpt os + 0 := by rw [w6, c5]; rfl
        subst w60
        refine x_aload_n dX12_answers_21 0 rfl ?_
        refine x_dup dX12_answers_22 rfl ?_
        refine x_get (v := .int (nI (os.length + 1))) dX12_answers_23 fX12_258 (hM2.1) rfl ?_
        refine x_iconst dX12_answers_26 ki_1 ?_
        refine x_isubN dX12_answers_27 (by omega) ?_
        refine x_topi (y := nI os.length) (by rw [Nat.add_sub_cancel]) ?_
        refine x_put (fs' := [.int (F 0), .ref (y + 1), .ref (y + 2), .ref (y + 3), .ref (y + 4), .ref (y + 5), .ref (y + 6), .ref (y + 7), .ref (y + 8), .ref (y + 9), .ref (y + 10), .ref (y + 11), .ref (y + 12), .ref (y + 13), .ref (y + 14), .ref (y + 15), .ref (y + 16), .ref (y + 17), .ref (y + 18), .ref (y + 19), .ref (y + 20), .ref (y + 21), .ref (y + 22), .ref (y + 23), .ref (y + 24), .ref (y + 25), .ref (y + 26), .int (nI tn), .int (nI p2), .int (nI ((putP s 13 0).1)), .int (nI sl), .int (F 31), .int (nI en2), .int (nI (dpt os + 0)), .int (nI co2), .int (nI os.length), .int (nI 12), .ref (y + 27), .ref (y + 28), .ref (y + 29), .ref (y + 30), .ref (y + 31), .ref (y + 32), .ref (y + 33), .ref (y + 34), .ref (y + 35), .ref (y + 36), .ref (y + 37), .ref (y + 38), .int (F 49), .int (F 50), .int (F 51), .int (F 52), .int (F 53), .ref (y + 39), .ref (y + 40), .ref (y + 41), .int (F 57), .int (F 58), .ref (y + 42), .ref (y + 43), .ref (y + 44), .ref (y + 45), .int (F 63), .int (F 64)]) dX12_answers_28 fX12_258 (hM2.1) (Nat.le_of_ble_eq_true rfl) rfl rfl rfl ?_
        refine x_geq (G' := xup _ y (modO y (pF (upd F 36 (nI 12)) tn p2 ((putP s 13 0).1) sl en2 (dpt os + 0) co2 os.length))) rfl ?_
        have hM101 := hM2.fld (pF (upd F 36 (nI 12)) tn p2 ((putP s 13 0).1) sl en2 (dpt os + 0) co2 os.length)
        refine x_aload_n dX12_answers_31 0 rfl ?_
        refine x_dup dX12_answers_32 rfl ?_
        refine x_pc (pc' := 33) rfl ?_
        refine x_get (v := .int (nI (dpt os + 0))) dX12_answers_33 fX12_261 (hM101.1) rfl ?_
        refine x_iload_n dX12_answers_36 1 rfl ?_
        refine x_bipush dX12_answers_37 kb_9 ?_
        refine x_icmpN_ne (tgt := 46) dX12_answers_39 (by decide) (by omega) (by omega) (fun c39 => ?_) (fun c39 => ?_)
        · refine x_iconst dX12_answers_46 ki_0 ?_
          refine x_isubN dX12_answers_47 (by omega) ?_
          refine x_topi (y := nI (dpt os)) (by congr 1) ?_
          refine x_put (fs' := [.int (F 0), .ref (y + 1), .ref (y + 2), .ref (y + 3), .ref (y + 4), .ref (y + 5), .ref (y + 6), .ref (y + 7), .ref (y + 8), .ref (y + 9), .ref (y + 10), .ref (y + 11), .ref (y + 12), .ref (y + 13), .ref (y + 14), .ref (y + 15), .ref (y + 16), .ref (y + 17), .ref (y + 18), .ref (y + 19), .ref (y + 20), .ref (y + 21), .ref (y + 22), .ref (y + 23), .ref (y + 24), .ref (y + 25), .ref (y + 26), .int (nI tn), .int (nI p2), .int (nI ((putP s 13 0).1)), .int (nI sl), .int (F 31), .int (nI en2), .int (nI (dpt os)), .int (nI co2), .int (nI os.length), .int (nI 12), .ref (y + 27), .ref (y + 28), .ref (y + 29), .ref (y + 30), .ref (y + 31), .ref (y + 32), .ref (y + 33), .ref (y + 34), .ref (y + 35), .ref (y + 36), .ref (y + 37), .ref (y + 38), .int (F 49), .int (F 50), .int (F 51), .int (F 52), .int (F 53), .ref (y + 39), .ref (y + 40), .ref (y + 41), .int (F 57), .int (F 58), .ref (y + 42), .ref (y + 43), .ref (y + 44), .ref (y + 45), .int (F 63), .int (F 64)]) dX12_answers_48 fX12_261 (hM101.1) (Nat.le_of_ble_eq_true rfl) rfl rfl rfl ?_
          refine x_geq (G' := xup _ y (modO y (pF (upd F 36 (nI 12)) tn p2 ((putP s 13 0).1) sl en2 (dpt os) co2 os.length))) rfl ?_
          have hM102 := hM101.fld (pF (upd F 36 (nI 12)) tn p2 ((putP s 13 0).1) sl en2 (dpt os) co2 os.length)
          refine x_goto (tgt := 0) dX12_answers_51 (by decide) ?_
          exact ih (putP s 13 0) _ (by rw [putP_f.1]; exact h0) (by omega) (fun o2 ho2 => hom o2 (by simp [ho2])) (Hb.put (hb.wk (by rw [pnd_c (by omega)]; omega))) hr1 ⟨hf2, _, _, _, _, _, _, hM102, hK2, hp2, hc2, fun _ => ⟨w1, w2, w3, w4, w5, rfl, rfl, w8.tl, w9⟩⟩
        · exact absurd c39 (by decide)
theorem PR_ans11 {K : xG} {h y : Nat} {G0 G : xHp} {hl : xHl} {r : xRw} {sc : Nat × Nat × Int32} {A0 : Nat → Nat → Int32} {F : Nat → Int32} {wa sa : Nat → Int64} {tn : Nat} {tp : Nat → Nat} {sl b : Nat} {os : List Nat} {s : xPS} {c0 : Nat} (hH : PH A0 tp tn sl) (h0 : s.1 = 0) (hol : os.length < 401) (hom : ∀ o ∈ os, o < 13) (hb : Hb tn (3 * pnd os + c0) s) (hR : PR G0 G y hl r sc A0 F wa sa tn tp sl b (dpt os) os s) : xCall K mX12_answers 1 0 0 [.ref y, .int (nI 11)] h G (prQ G0 h y hl r sc A0 F wa sa tn tp sl b (dpt (anP 11 os s).1) ((anP 11 os s).1) ((anP 11 os s).2)) := by
  refine x_entry (by decide) (ls := [(0, .ref y), (1, .int (nI 11))]) rfl (Nat.le_of_ble_eq_true rfl) ?_
  exact PR_ans11_loop (c0 := c0) hH os s G h0 hol hom hb rfl hR
