theorem Md_fails1 {K : xG} {h y : Nat} {G0 G : xHp} {hl : xHl} {r : xRw} {sc : Nat × Nat × Int32} {A : Nat → Nat → Int32} {F : Nat → Int32} {wa sa : Nat → Int64} {tn p f sl en de co op : Nat} {a b : Nat} (hM : MW G0 G y hl r sc A (pF F tn p f sl en de co op) wa sa) (hf : 0 < f) (hf9 : f < 1000000) : xCall K mX12_fails 0 0 0 [.ref y, .int (nI a), .int (nI b)] h G (mdQ G0 h y none hl r sc A (pF F tn p f sl en de co op) wa sa) := by
  refine x_entry (by decide) (ls := [(0, .ref y), (1, .int (nI a)), (2, .int (nI b))]) rfl (Nat.le_of_ble_eq_true rfl) ?_
  refine x_aload_n dX12_fails_0 0 rfl ?_
  refine x_aload_n dX12_fails_1 0 rfl ?_
  refine x_get (v := .int (nI f)) dX12_fails_2 fX12_187 (hM.1) rfl ?_
  refine x_ifN_ne (tgt := 19) dX12_fails_5 (by decide) (by omega) (fun c5 => ?_) (fun c5 => ?_)
  · refine x_aload_n dX12_fails_19 0 rfl ?_
    refine x_get (v := .int (nI f)) dX12_fails_20 fX12_187 (hM.1) rfl ?_
    refine x_put (fs' := [.int (F 0), .ref (y + 1), .ref (y + 2), .ref (y + 3), .ref (y + 4), .ref (y + 5), .ref (y + 6), .ref (y + 7), .ref (y + 8), .ref (y + 9), .ref (y + 10), .ref (y + 11), .ref (y + 12), .ref (y + 13), .ref (y + 14), .ref (y + 15), .ref (y + 16), .ref (y + 17), .ref (y + 18), .ref (y + 19), .ref (y + 20), .ref (y + 21), .ref (y + 22), .ref (y + 23), .ref (y + 24), .ref (y + 25), .ref (y + 26), .int (nI tn), .int (nI p), .int (nI f), .int (nI sl), .int (F 31), .int (nI en), .int (nI de), .int (nI co), .int (nI op), .int (F 36), .ref (y + 27), .ref (y + 28), .ref (y + 29), .ref (y + 30), .ref (y + 31), .ref (y + 32), .ref (y + 33), .ref (y + 34), .ref (y + 35), .ref (y + 36), .ref (y + 37), .ref (y + 38), .int (F 49), .int (F 50), .int (F 51), .int (F 52), .int (F 53), .ref (y + 39), .ref (y + 40), .ref (y + 41), .int (F 57), .int (F 58), .ref (y + 42), .ref (y + 43), .ref (y + 44), .ref (y + 45), .int (F 63), .int (F 64)]) dX12_fails_23 fX12_187 (hM.1) (Nat.le_of_ble_eq_true rfl) rfl rfl rfl ?_
    refine x_geq (G' := xup _ y (modO y (pF F tn p f sl en de co op))) rfl ?_
    have hM1 := hM.fld (pF F tn p f sl en de co op)
    exact x_vret dX12_fails_26 rfl (xEx_i _ hM1 rfl rfl rfl)
  · exact absurd hf (by omega)
theorem Md_fails {K : xG} {h y : Nat} {G0 G : xHp} {hl : xHl} {r : xRw} {sc : Nat × Nat × Int32} {A : Nat → Nat → Int32} {F : Nat → Int32} {wa sa : Nat → Int64} {tn p f sl en de co op : Nat} {a b : Nat} (hM : MW G0 G y hl r sc A (pF F tn p f sl en de co op) wa sa) (hf9 : f < 1000000) : xCall K mX12_fails 0 0 0 [.ref y, .int (nI a), .int (nI b)] h G (mdQ G0 h y none hl r sc A (pF F tn p (flt f a b) sl en de co op) wa sa) := by
  by_cases e : f = 0
  · subst e
    rw [show flt 0 a b = 1 + 8 * b + a from if_pos rfl]
    exact Md_fails0 (f := 0) hM
  · rw [show flt f a b = f from if_neg e]
    exact Md_fails1 hM (by omega) hf9
theorem Md_counted_n {K : xG} {h y : Nat} {G0 G : xHp} {hl : xHl} {r : xRw} {sc : Nat × Nat × Int32} {A : Nat → Nat → Int32} {F : Nat → Int32} {wa sa : Nat → Int64} {tn p f sl en de co op : Nat} {b : Nat} (hM : MW G0 G y hl r sc A (pF F tn p f sl en de co op) wa sa) (hc : co ≠ 60) (hc9 : co < 1000) : xCall K mX12_isCounted 1 0 0 [.ref y, .int (nI b)] h G (mdQ G0 h y none hl r sc A (pF F tn p f sl en de (co + 1) op) wa sa) := by
  refine x_entry (by decide) (ls := [(0, .ref y), (1, .int (nI b))]) rfl (Nat.le_of_ble_eq_true rfl) ?_
  refine x_aload_n dX12_isCounted_0 0 rfl ?_
  refine x_get (v := .int (nI co)) dX12_isCounted_1 fX12_223 (hM.1) rfl ?_
  refine x_bipush dX12_isCounted_4 kb_60 ?_
  refine x_icmpN_ne (tgt := 15) dX12_isCounted_6 (by decide) (by omega) (by omega) (fun c6 => ?_) (fun c6 => ?_)
  · refine x_aload_n dX12_isCounted_15 0 rfl ?_
    refine x_dup dX12_isCounted_16 rfl ?_
    refine x_get (v := .int (nI co)) dX12_isCounted_17 fX12_223 (hM.1) rfl ?_
    refine x_iconst dX12_isCounted_20 ki_1 ?_
    refine x_iaddN dX12_isCounted_21 ?_
    refine x_pc (pc' := 22) rfl ?_
    refine x_put (fs' := [.int (F 0), .ref (y + 1), .ref (y + 2), .ref (y + 3), .ref (y + 4), .ref (y + 5), .ref (y + 6), .ref (y + 7), .ref (y + 8), .ref (y + 9), .ref (y + 10), .ref (y + 11), .ref (y + 12), .ref (y + 13), .ref (y + 14), .ref (y + 15), .ref (y + 16), .ref (y + 17), .ref (y + 18), .ref (y + 19), .ref (y + 20), .ref (y + 21), .ref (y + 22), .ref (y + 23), .ref (y + 24), .ref (y + 25), .ref (y + 26), .int (nI tn), .int (nI p), .int (nI f), .int (nI sl), .int (F 31), .int (nI en), .int (nI de), .int (nI (co + 1)), .int (nI op), .int (F 36), .ref (y + 27), .ref (y + 28), .ref (y + 29), .ref (y + 30), .ref (y + 31), .ref (y + 32), .ref (y + 33), .ref (y + 34), .ref (y + 35), .ref (y + 36), .ref (y + 37), .ref (y + 38), .int (F 49), .int (F 50), .int (F 51), .int (F 52), .int (F 53), .ref (y + 39), .ref (y + 40), .ref (y + 41), .int (F 57), .int (F 58), .ref (y + 42), .ref (y + 43), .ref (y + 44), .ref (y + 45), .int (F 63), .int (F 64)]) dX12_isCounted_22 fX12_223 (hM.1) (Nat.le_of_ble_eq_true rfl) rfl rfl rfl ?_
    refine x_geq (G' := xup _ y (modO y (pF F tn p f sl en de (co + 1) op))) rfl ?_
    have hM1 := hM.fld (pF F tn p f sl en de (co + 1) op)
    exact x_vret dX12_isCounted_25 rfl (xEx_i _ hM1 rfl rfl rfl)
  · exact absurd hc (by omega)
theorem Md_counted_y {K : xG} {h y : Nat} {G0 G : xHp} {hl : xHl} {r : xRw} {sc : Nat × Nat × Int32} {A : Nat → Nat → Int32} {F : Nat → Int32} {wa sa : Nat → Int64} {tn p f sl en de co op : Nat} {b : Nat} (hM : MW G0 G y hl r sc A (pF F tn p f sl en de 60 op) wa sa) (hf9 : f < 1000000) : xCall K mX12_isCounted 1 0 0 [.ref y, .int (nI b)] h G (mdQ G0 h y none hl r sc A (pF F tn p (flt f 3 b) sl en de 61 op) wa sa) := by
  refine x_entry (by decide) (ls := [(0, .ref y), (1, .int (nI b))]) rfl (Nat.le_of_ble_eq_true rfl) ?_
  refine x_aload_n dX12_isCounted_0 0 rfl ?_
  refine x_get (v := .int (nI 60)) dX12_isCounted_1 fX12_223 (hM.1) rfl ?_
  refine x_bipush dX12_isCounted_4 kb_60 ?_
  refine x_icmpN_ne (tgt := 15) dX12_isCounted_6 (by decide) (by omega) (by omega) (fun c6 => ?_) (fun c6 => ?_)
  · exact absurd c6 (by decide)
  · refine x_aload_n dX12_isCounted_9 0 rfl ?_
    refine x_iconst dX12_isCounted_10 ki_3 ?_
    refine x_iload_n dX12_isCounted_11 1 rfl ?_
    refine x_cVe (N := mX12_fails) (d' := 0) (mc := 0) (ms := 0) (cb := 0) (sb := 0) (As := [.int (nI 3), .int (nI b)]) (st := []) dX12_isCounted_12 mX12_fails_v lX12_226 rfl rfl (hM.1) rfl (by decide) (Nat.le_of_ble_eq_true rfl) (Md_fails hM hf9) rfl (sf := fun G2 => []) (fun _ => rfl) (fun G2 hN2 => ?_)
    refine x_aload_n dX12_isCounted_15 0 rfl ?_
    refine x_pc (pc' := 16) rfl ?_
    refine x_dup dX12_isCounted_16 rfl ?_
    refine x_get (v := .int (nI 60)) dX12_isCounted_17 fX12_223 (hN2.1) rfl ?_
    refine x_iconst dX12_isCounted_20 ki_1 ?_
    refine x_iaddN dX12_isCounted_21 ?_
    refine x_put (fs' := [.int (F 0), .ref (y + 1), .ref (y + 2), .ref (y + 3), .ref (y + 4), .ref (y + 5), .ref (y + 6), .ref (y + 7), .ref (y + 8), .ref (y + 9), .ref (y + 10), .ref (y + 11), .ref (y + 12), .ref (y + 13), .ref (y + 14), .ref (y + 15), .ref (y + 16), .ref (y + 17), .ref (y + 18), .ref (y + 19), .ref (y + 20), .ref (y + 21), .ref (y + 22), .ref (y + 23), .ref (y + 24), .ref (y + 25), .ref (y + 26), .int (nI tn), .int (nI p), .int (nI (flt f 3 b)), .int (nI sl), .int (F 31), .int (nI en), .int (nI de), .int (nI 61), .int (nI op), .int (F 36), .ref (y + 27), .ref (y + 28), .ref (y + 29), .ref (y + 30), .ref (y + 31), .ref (y + 32), .ref (y + 33), .ref (y + 34), .ref (y + 35), .ref (y + 36), .ref (y + 37), .ref (y + 38), .int (F 49), .int (F 50), .int (F 51), .int (F 52), .int (F 53), .ref (y + 39), .ref (y + 40), .ref (y + 41), .int (F 57), .int (F 58), .ref (y + 42), .ref (y + 43), .ref (y + 44), .ref (y + 45), .int (F 63), .int (F 64)]) dX12_isCounted_22 fX12_223 (hN2.1) (Nat.le_of_ble_eq_true rfl) rfl rfl rfl ?_
    refine x_geq (G' := xup _ y (modO y (pF F tn p (flt f 3 b) sl en de 61 op))) rfl ?_
    have hM1 := hN2.fld (pF F tn p (flt f 3 b) sl en de 61 op)
    exact x_vret dX12_isCounted_25 rfl (xEx_i _ hM1 rfl rfl rfl)
theorem Md_entry1 {K : xG} {h y : Nat} {G0 G : xHp} {hl : xHl} {r : xRw} {sc : Nat × Nat × Int32} {A : Nat → Nat → Int32} {F : Nat → Int32} {wa sa : Nat → Int64} {tn p f sl en de co op : Nat} {a b : Nat} (hM : MW G0 G y hl r sc A (pF F tn p f sl en de co op) wa sa) (hf : 0 < f) (hf9 : f < 1000000) : xCall K mX12_entry 0 0 0 [.ref y, .int (nI a), .int (nI b)] h G (xRet none h G) := by
  refine x_entry (by decide) (ls := [(0, .ref y), (1, .int (nI a)), (2, .int (nI b))]) rfl (Nat.le_of_ble_eq_true rfl) ?_
  refine x_aload_n dX12_entry_0 0 rfl ?_
  refine x_get (v := .int (nI f)) dX12_entry_1 fX12_187 (hM.1) rfl ?_
  refine x_ifN_ne (tgt := 55) dX12_entry_4 (by decide) (by omega) (fun c4 => ?_) (fun c4 => ?_)
  · exact x_vret dX12_entry_55 rfl (xRet_i)
  · exact absurd hf (by omega)
theorem Md_entry0 {K : xG} {h y : Nat} {G0 G : xHp} {hl : xHl} {r : xRw} {sc : Nat × Nat × Int32} {A : Nat → Nat → Int32} {F : Nat → Int32} {wa sa : Nat → Int64} {tn p f sl en de co op : Nat} {a b : Nat} (hM : MW G0 G y hl r sc A (pF F tn p 0 sl en de co op) wa sa) (hs : sl < 6) (he : en < 300) : xCall K mX12_entry 0 0 0 [.ref y, .int (nI a), .int (nI b)] h G (mdQ G0 h y none hl r sc (setA (setA A 28 (upd (A 28) (300 * sl + en) (nI a))) 29 (upd (A 29) (300 * sl + en) (nI b))) (pF F tn p 0 sl (en + 1) de co op) wa sa) := by
  refine x_entry (by decide) (ls := [(0, .ref y), (1, .int (nI a)), (2, .int (nI b))]) rfl (Nat.le_of_ble_eq_true rfl) ?_
  refine x_aload_n dX12_entry_0 0 rfl ?_
  refine x_get (v := .int (nI 0)) dX12_entry_1 fX12_187 (hM.1) rfl ?_
  refine x_ifN_ne (tgt := 55) dX12_entry_4 (by decide) (by omega) (fun c4 => ?_) (fun c4 => ?_)
  · exact absurd c4 (by decide)
  · refine x_aload_n dX12_entry_7 0 rfl ?_
    refine x_get (v := .ref (y + 28)) dX12_entry_8 fX12_96 (hM.1) rfl ?_
    refine x_sipush dX12_entry_11 ks_300 ?_
    refine x_aload_n dX12_entry_14 0 rfl ?_
    refine x_get (v := .int (nI sl)) dX12_entry_15 fX12_217 (hM.1) rfl ?_
    refine x_imulN dX12_entry_18 ?_
    refine x_pc (pc' := 19) rfl ?_
    refine x_aload_n dX12_entry_19 0 rfl ?_
    refine x_get (v := .int (nI en)) dX12_entry_20 fX12_220 (hM.1) rfl ?_
    refine x_iaddN dX12_entry_23 ?_
    refine x_iload_n dX12_entry_24 1 rfl ?_
    refine x_iastN (n := 1800) (f := A 28) dX12_entry_25 (hM.c28) (by omega) (by decide) ?_
    have hM1 := hM.a28 (upd (A 28) ((300 * sl) + en) (nI a))
    refine x_aload_n dX12_entry_26 0 rfl ?_
    refine x_get (v := .ref (y + 29)) dX12_entry_27 fX12_99 (hM1.1) rfl ?_
    refine x_sipush dX12_entry_30 ks_300 ?_
    refine x_aload_n dX12_entry_33 0 rfl ?_
    refine x_get (v := .int (nI sl)) dX12_entry_34 fX12_217 (hM1.1) rfl ?_
    refine x_pc (pc' := 37) rfl ?_
    refine x_imulN dX12_entry_37 ?_
    refine x_aload_n dX12_entry_38 0 rfl ?_
    refine x_get (v := .int (nI en)) dX12_entry_39 fX12_220 (hM1.1) rfl ?_
    refine x_iaddN dX12_entry_42 ?_
    refine x_iload_n dX12_entry_43 2 rfl ?_
    refine x_iastN (n := 1800) (f := A 29) dX12_entry_44 (hM1.c29) (by omega) (by decide) ?_
    have hM2 := hM1.a29 (upd (A 29) ((300 * sl) + en) (nI b))
    refine x_aload_n dX12_entry_45 0 rfl ?_
    refine x_dup dX12_entry_46 rfl ?_
    refine x_get (v := .int (nI en)) dX12_entry_47 fX12_220 (hM2.1) rfl ?_
    refine x_iconst dX12_entry_50 ki_1 ?_
    refine x_pc (pc' := 51) rfl ?_
    refine x_iaddN dX12_entry_51 ?_
    refine x_put (fs' := [.int (F 0), .ref (y + 1), .ref (y + 2), .ref (y + 3), .ref (y + 4), .ref (y + 5), .ref (y + 6), .ref (y + 7), .ref (y + 8), .ref (y + 9), .ref (y + 10), .ref (y + 11), .ref (y + 12), .ref (y + 13), .ref (y + 14), .ref (y + 15), .ref (y + 16), .ref (y + 17), .ref (y + 18), .ref (y + 19), .ref (y + 20), .ref (y + 21), .ref (y + 22), .ref (y + 23), .ref (y + 24), .ref (y + 25), .ref (y + 26), .int (nI tn), .int (nI p), .int (nI 0), .int (nI sl), .int (F 31), .int (nI (en + 1)), .int (nI de), .int (nI co), .int (nI op), .int (F 36), .ref (y + 27), .ref (y + 28), .ref (y + 29), .ref (y + 30), .ref (y + 31), .ref (y + 32), .ref (y + 33), .ref (y + 34), .ref (y + 35), .ref (y + 36), .ref (y + 37), .ref (y + 38), .int (F 49), .int (F 50), .int (F 51), .int (F 52), .int (F 53), .ref (y + 39), .ref (y + 40), .ref (y + 41), .int (F 57), .int (F 58), .ref (y + 42), .ref (y + 43), .ref (y + 44), .ref (y + 45), .int (F 63), .int (F 64)]) dX12_entry_52 fX12_220 (hM2.1) (Nat.le_of_ble_eq_true rfl) rfl rfl rfl ?_
    refine x_geq (G' := xup _ y (modO y (pF F tn p 0 sl (en + 1) de co op))) rfl ?_
    have hM3 := hM2.fld (pF F tn p 0 sl (en + 1) de co op)
    exact x_vret dX12_entry_55 rfl (xEx_i _ hM3 rfl rfl rfl)
