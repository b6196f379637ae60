theorem Md_minute_n {K : xG} {h y : Nat} {G0 G : xHp} {hl : xHl} {r : xRw} {sc : Nat × Nat × Int32} {A : Nat → Nat → Int32} {F : Nat → Int32} {wa sa : Nat → Int64} (hM : MW G0 G y hl r sc A F wa sa) (hO : HallOk hl) (hn : ¬ (0 < hl 0 0 ∧ ¬ r 0 = nI 999)) : xCall K mX12_minute 8 0 0 [.ref y] h G (xRet (some (.int (-1))) h G) := by
  refine x_entry (by decide) (ls := [(0, .ref y)]) rfl (Nat.le_of_ble_eq_true rfl) ?_
  have hB := hM.hB
  obtain ⟨o2, o3, o4, o5, o6, o7, o8, o9⟩ := id hO
  refine x_aload_n dX12_minute_0 0 rfl ?_
  refine x_cV (N := mX12_isHall) (d' := 0) (mc := 0) (ms := 0) (cb := 0) (sb := 0) (As := []) (st := []) dX12_minute_1 mX12_isHall_v lX12_425 rfl rfl (hM.1) rfl (by decide) (Nat.le_of_ble_eq_true rfl) (Md_isHall hM) rfl (st1 := [.int (bI (decide (0 < hl 0 0)))]) rfl ?_
  refine x_ifB_eq (tgt := 19) dX12_minute_4 (by decide) (fun c4 => ?_) (fun c4 => ?_)
  · refine x_iconst dX12_minute_19 ki_m1 ?_
    exact x_iret dX12_minute_20 rfl (xRet_i)
  · refine x_aload_n dX12_minute_7 0 rfl ?_
    refine x_get (v := .ref (y + 1)) dX12_minute_8 fX12_9 (hM.1) rfl ?_
    refine x_iconst dX12_minute_11 ki_5 ?_
    refine x_ialdN (n := 9) (f := scal hl r sc) dX12_minute_12 (hM.c1) (by decide) (by decide) ?_
    refine x_topi (y := r 0) rfl ?_
    refine x_sipush dX12_minute_13 ks_999 ?_
    refine x_icmp_ne (x := r 0) (y := nI 999) (tgt := 21) dX12_minute_16 (by decide) (fun c16 => ?_) (fun c16 => ?_)
    · exact absurd ⟨of_decide_eq_true c4, c16⟩ hn
    · refine x_pc (pc' := 19) rfl ?_
      refine x_iconst dX12_minute_19 ki_m1 ?_
      exact x_iret dX12_minute_20 rfl (xRet_i)
theorem Md_minute_y {K : xG} {h y pm : Nat} {G0 G : xHp} {hl : xHl} {r : xRw} {sc : Nat × Nat × Int32} {A : Nat → Nat → Int32} {F : Nat → Int32} {wa sa : Nat → Int64} {rv : Option (List Nat)} (hM : MW G0 G y hl r sc A F wa sa) (hO : HallOk hl) (hpm : F 49 = nI pm) (hp20 : pm ≤ 20) (hV : RvR A sc rv) (hrow : RowOk hl r) (h1 : 0 < hl 0 0) (h2 : ¬ r 0 = nI 999) : xCall K mX12_minute 8 0 0 [.ref y] h G (mdX G0 h y (some (.int (goMin hl rv r).2)) hl ((goMin hl rv r).1) sc (setA A 37 (keepP (A 37) pm r)) (keepF F pm)) := by
  refine x_entry (by decide) (ls := [(0, .ref y)]) rfl (Nat.le_of_ble_eq_true rfl) ?_
  have hB := hM.hB
  obtain ⟨o2, o3, o4, o5, o6, o7, o8, o9⟩ := id hO
  refine x_aload_n dX12_minute_0 0 rfl ?_
  refine x_cV (N := mX12_isHall) (d' := 0) (mc := 0) (ms := 0) (cb := 0) (sb := 0) (As := []) (st := []) dX12_minute_1 mX12_isHall_v lX12_425 rfl rfl (hM.1) rfl (by decide) (Nat.le_of_ble_eq_true rfl) (Md_isHall hM) rfl (st1 := [.int (bI (decide (0 < hl 0 0)))]) rfl ?_
  refine x_ifB_eq (tgt := 19) dX12_minute_4 (by decide) (fun c4 => ?_) (fun c4 => ?_)
  · exact absurd c4 (by rw [decide_eq_true h1]; decide)
  · refine x_aload_n dX12_minute_7 0 rfl ?_
    refine x_get (v := .ref (y + 1)) dX12_minute_8 fX12_9 (hM.1) rfl ?_
    refine x_iconst dX12_minute_11 ki_5 ?_
    refine x_ialdN (n := 9) (f := scal hl r sc) dX12_minute_12 (hM.c1) (by decide) (by decide) ?_
    refine x_topi (y := r 0) rfl ?_
    refine x_sipush dX12_minute_13 ks_999 ?_
    refine x_icmp_ne (x := r 0) (y := nI 999) (tgt := 21) dX12_minute_16 (by decide) (fun c16 => ?_) (fun c16 => ?_)
    · refine x_pc (pc' := 21) rfl ?_
      refine x_aload_n dX12_minute_21 0 rfl ?_
      refine x_cVe (N := mX12_keepsAct) (d' := 3) (mc := 0) (ms := 0) (cb := 0) (sb := 0) (As := []) (st := []) dX12_minute_22 mX12_keepsAct_v lX12_428 rfl rfl (hM.1) rfl (by decide) (Nat.le_of_ble_eq_true rfl) (Md_keepsAct hM hpm hp20) rfl (sf := fun Gk => []) (fun _ => rfl) (fun Gk hNk => ?_)
      refine x_aload_n dX12_minute_25 0 rfl ?_
      refine x_cVe (N := mX12_goes) (d' := 7) (mc := 0) (ms := 0) (cb := 0) (sb := 0) (As := []) (st := []) dX12_minute_26 mX12_goes_v lX12_404 rfl rfl (hNk.1) rfl (by decide) (Nat.le_of_ble_eq_true rfl) (Md_goes hNk hO (hV.set (by omega)) hrow) rfl (sf := fun e2 => [.int ((goMin hl rv r).2)]) (fun _ => rfl) (fun e2 hq2 => ?_)
      obtain ⟨⟨w2, k2⟩, G2⟩ := e2
      have hN2 : MW G0 G2 y hl ((goMin hl rv r).1) sc (setA A 37 (keepP (A 37) pm r)) (keepF F pm) w2 k2 := hq2
      exact x_iret dX12_minute_29 rfl (xEx_i ((w2, k2), G2) hN2 rfl rfl rfl)
    · exact absurd c16 h2
theorem Md_give_n {K : xG} {h y : Nat} {G0 G : xHp} {hl : xHl} {r : xRw} {sc : Nat × Nat × Int32} {A : Nat → Nat → Int32} {F : Nat → Int32} {wa sa : Nat → Int64} {v w : Int32} (hM : MW G0 G y hl r sc A F wa sa) (hO : HallOk hl) (hn : ¬ (inR v (hl 0 3) = true ∧ r (5 + thN v) = -1 ∧ inR w (hl 0 4) = true ∧ canT hl r (thN v) (thN w) = true)) : xCall K mX12_give 4 0 0 [.ref y, .int v, .int w] h G (xRet (some (.int (-1))) h G) := by
  refine x_entry (by decide) (ls := [(0, .ref y), (1, .int v), (2, .int w)]) rfl (Nat.le_of_ble_eq_true rfl) ?_
  have hB := hM.hB
  obtain ⟨o2, o3, o4, o5, o6, o7, o8, o9⟩ := id hO
  refine x_aload_n dX12_give_0 0 rfl ?_
  refine x_iload_n dX12_give_1 1 rfl ?_
  refine x_cV (N := mX12_isFree) (d' := 2) (mc := 0) (ms := 0) (cb := 0) (sb := 0) (As := [.int v]) (st := []) dX12_give_2 mX12_isFree_v lX12_431 rfl rfl (hM.1) rfl (by decide) (Nat.le_of_ble_eq_true rfl) (Md_isFree hM o3) rfl (st1 := [.int (bI (inR v (hl 0 3) && decide (r (5 + thN v) = -1)))]) rfl ?_
  refine x_ifB_eq (tgt := 25) dX12_give_5 (by decide) (fun c5 => ?_) (fun c5 => ?_)
  · refine x_iconst dX12_give_25 ki_m1 ?_
    exact x_iret dX12_give_26 rfl (xRet_i)
  · refine x_aload_n dX12_give_8 0 rfl ?_
    refine x_iload_n dX12_give_9 2 rfl ?_
    refine x_cV (N := mX12_isThing) (d' := 1) (mc := 0) (ms := 0) (cb := 0) (sb := 0) (As := [.int w]) (st := []) dX12_give_10 mX12_isThing_v lX12_360 rfl rfl (hM.1) rfl (by decide) (Nat.le_of_ble_eq_true rfl) (Md_isThing hM) rfl (st1 := [.int (bI (inR w (hl 0 4)))]) rfl ?_
    refine x_ifB_eq (tgt := 25) dX12_give_13 (by decide) (fun c13 => ?_) (fun c13 => ?_)
    · refine x_iconst dX12_give_25 ki_m1 ?_
      refine x_pc (pc' := 26) rfl ?_
      exact x_iret dX12_give_26 rfl (xRet_i)
    · have hc5 := c5
      rw [Bool.and_eq_true] at hc5
      obtain ⟨h5a, h5b⟩ := hc5
      obtain ⟨g1, g2⟩ := inR_th h5a
      obtain ⟨g3, g4⟩ := inR_th c13
      refine x_leq (ls' := [(0, .ref y), (1, .int (nI (thN v))), (2, .int (nI (thN w)))]) (by rw [← g2, ← g4]) ?_
      refine x_aload_n dX12_give_16 0 rfl ?_
      refine x_pc (pc' := 17) rfl ?_
      refine x_iload_n dX12_give_17 1 rfl ?_
      refine x_iload_n dX12_give_18 2 rfl ?_
      refine x_cV (N := mX12_canTake) (d' := 0) (mc := 0) (ms := 0) (cb := 0) (sb := 0) (As := [.int (nI (thN v)), .int (nI (thN w))]) (st := []) dX12_give_19 mX12_canTake_v lX12_383 rfl rfl (hM.1) rfl (by decide) (Nat.le_of_ble_eq_true rfl) (Md_canTake hM (by omega) (by omega) (by have := o5 (thN w) (by omega); omega)) rfl (st1 := [.int (bI (canT hl r (thN v) (thN w)))]) rfl ?_
      refine x_ifB_ne (tgt := 27) dX12_give_22 (by decide) (fun c22 => ?_) (fun c22 => ?_)
      · exact absurd ⟨h5a, of_decide_eq_true h5b, c13, c22⟩ hn
      · refine x_iconst dX12_give_25 ki_m1 ?_
        exact x_iret dX12_give_26 rfl (xRet_i)
theorem Md_give_y {K : xG} {h y pm : Nat} {G0 G : xHp} {hl : xHl} {r : xRw} {sc : Nat × Nat × Int32} {A : Nat → Nat → Int32} {F : Nat → Int32} {wa sa : Nat → Int64} {q t : Nat} (hM : MW G0 G y hl r sc A F wa sa) (hO : HallOk hl) (hpm : F 49 = nI pm) (hp20 : pm ≤ 20) (hq : q < hl 0 3) (hf : r (5 + q) = -1) (ht : t < hl 0 4) (hc : canT hl r q t = true) : xCall K mX12_give 4 0 0 [.ref y, .int (nI q), .int (nI t)] h G (mdQ G0 h y (some (.int (nI (effS hl q t)))) hl (beginR hl r q t) sc (setA A 37 (keepP (A 37) pm r)) (keepF F pm) wa sa) := by
  refine x_entry (by decide) (ls := [(0, .ref y), (1, .int (nI q)), (2, .int (nI t))]) rfl (Nat.le_of_ble_eq_true rfl) ?_
  have hB := hM.hB
  obtain ⟨o2, o3, o4, o5, o6, o7, o8, o9⟩ := id hO
  obtain ⟨-, hk2, -⟩ := of_decide_eq_true hc
  have o5t := o5 t ht
  refine x_aload_n dX12_give_0 0 rfl ?_
  refine x_iload_n dX12_give_1 1 rfl ?_
  refine x_cV (N := mX12_isFree) (d' := 2) (mc := 0) (ms := 0) (cb := 0) (sb := 0) (As := [.int (nI q)]) (st := []) dX12_give_2 mX12_isFree_v lX12_431 rfl rfl (hM.1) rfl (by decide) (Nat.le_of_ble_eq_true rfl) (Md_isFree hM o3) rfl (st1 := [.int (bI (inR (nI q) (hl 0 3) && decide (r (5 + thN (nI q)) = -1)))]) rfl ?_
  refine x_ifB_eq (tgt := 25) dX12_give_5 (by decide) (fun c5 => ?_) (fun c5 => ?_)
  · exact absurd c5 (by rw [inR_nI (by omega), thN_nI (by omega), decide_eq_true hq, decide_eq_true hf]; decide)
  · refine x_aload_n dX12_give_8 0 rfl ?_
    refine x_iload_n dX12_give_9 2 rfl ?_
    refine x_cV (N := mX12_isThing) (d' := 1) (mc := 0) (ms := 0) (cb := 0) (sb := 0) (As := [.int (nI t)]) (st := []) dX12_give_10 mX12_isThing_v lX12_360 rfl rfl (hM.1) rfl (by decide) (Nat.le_of_ble_eq_true rfl) (Md_isThing hM) rfl (st1 := [.int (bI (inR (nI t) (hl 0 4)))]) rfl ?_
    refine x_ifB_eq (tgt := 25) dX12_give_13 (by decide) (fun c13 => ?_) (fun c13 => ?_)
    · exact absurd c13 (by rw [inR_nI (by omega), decide_eq_true ht]; decide)
    · refine x_aload_n dX12_give_16 0 rfl ?_
      refine x_pc (pc' := 17) rfl ?_
      refine x_iload_n dX12_give_17 1 rfl ?_
      refine x_iload_n dX12_give_18 2 rfl ?_
      refine x_cV (N := mX12_canTake) (d' := 0) (mc := 0) (ms := 0) (cb := 0) (sb := 0) (As := [.int (nI q), .int (nI t)]) (st := []) dX12_give_19 mX12_canTake_v lX12_383 rfl rfl (hM.1) rfl (by decide) (Nat.le_of_ble_eq_true rfl) (Md_canTake hM (by omega) (by omega) (by have := o5 t (by omega); omega)) rfl (st1 := [.int (bI (canT hl r q t))]) rfl ?_
      refine x_ifB_ne (tgt := 27) dX12_give_22 (by decide) (fun c22 => ?_) (fun c22 => ?_)
      · refine x_aload_n dX12_give_27 0 rfl ?_
        refine x_cVe (N := mX12_keepsAct) (d' := 3) (mc := 0) (ms := 0) (cb := 0) (sb := 0) (As := []) (st := []) dX12_give_28 mX12_keepsAct_v lX12_428 rfl rfl (hM.1) rfl (by decide) (Nat.le_of_ble_eq_true rfl) (Md_keepsAct hM hpm hp20) rfl (sf := fun Gk => []) (fun _ => rfl) (fun Gk hNk => ?_)
        refine x_aload_n dX12_give_31 0 rfl ?_
        refine x_iload_n dX12_give_32 1 rfl ?_
        refine x_iload_n dX12_give_33 2 rfl ?_
        refine x_cVe (N := mX12_takesIt) (d' := 1) (mc := 0) (ms := 0) (cb := 0) (sb := 0) (As := [.int (nI q), .int (nI t)]) (st := []) dX12_give_34 mX12_takesIt_v lX12_395 rfl rfl (hNk.1) rfl (by decide) (Nat.le_of_ble_eq_true rfl) (Md_takesIt hNk (by omega) (by omega) (by omega) hk2 (by have := hO.2.2.2.2.1 (q * 4 + hl 4 t) (by have := hO.1; have := hO.2.2.2.1 t (by omega); omega); omega)) rfl (sf := fun G3 => []) (fun _ => rfl) (fun G3 hN3 => ?_)
        refine x_pc (pc' := 37) rfl ?_
        refine x_aload_n dX12_give_37 0 rfl ?_
        refine x_get (v := .ref (y + 6)) dX12_give_38 fX12_25 (hN3.1) rfl ?_
        refine x_iload_n dX12_give_41 1 rfl ?_
        refine x_ialdN (n := 4) (f := blk (beginR hl r q t) 9 4) dX12_give_42 (hN3.c6) (by omega) (by decide) ?_
        refine x_topi (y := (beginR hl r q t) (9 + q)) (blk_at (by omega)) ?_
        exact x_iret dX12_give_43 rfl (xEx_i G3 hN3 (by rw [show beginR hl r q t (9 + q) = nI (effS hl q t) from upd_at]) rfl rfl)
      · exact absurd c22 (by rw [hc]; decide)
theorem Md_putDown_n {K : xG} {h y : Nat} {G0 G : xHp} {hl : xHl} {r : xRw} {sc : Nat × Nat × Int32} {A : Nat → Nat → Int32} {F : Nat → Int32} {wa sa : Nat → Int64} {v : Int32} (hM : MW G0 G y hl r sc A F wa sa) (hO : HallOk hl) (hn : ¬ (inR v (hl 0 3) = true ∧ ¬ r (5 + thN v) = -1)) : xCall K mX12_putDown 4 0 0 [.ref y, .int v] h G (xRet (some (.int (-1))) h G) := by
  refine x_entry (by decide) (ls := [(0, .ref y), (1, .int v)]) rfl (Nat.le_of_ble_eq_true rfl) ?_
  have hB := hM.hB
  obtain ⟨o2, o3, o4, o5, o6, o7, o8, o9⟩ := id hO
  refine x_aload_n dX12_putDown_0 0 rfl ?_
  refine x_iload_n dX12_putDown_1 1 rfl ?_
  refine x_cV (N := mX12_isMender) (d' := 1) (mc := 0) (ms := 0) (cb := 0) (sb := 0) (As := [.int v]) (st := []) dX12_putDown_2 mX12_isMender_v lX12_364 rfl rfl (hM.1) rfl (by decide) (Nat.le_of_ble_eq_true rfl) (Md_isMender hM) rfl (st1 := [.int (bI (inR v (hl 0 3)))]) rfl ?_
  refine x_ifB_eq (tgt := 18) dX12_putDown_5 (by decide) (fun c5 => ?_) (fun c5 => ?_)
  · refine x_iconst dX12_putDown_18 ki_m1 ?_
    exact x_iret dX12_putDown_19 rfl (xRet_i)
  · obtain ⟨g1, g2⟩ := inR_th c5
    refine x_leq (ls' := [(0, .ref y), (1, .int (nI (thN v)))]) (by rw [← g2]) ?_
    refine x_aload_n dX12_putDown_8 0 rfl ?_
    refine x_get (v := .ref (y + 5)) dX12_putDown_9 fX12_22 (hM.1) rfl ?_
    refine x_iload_n dX12_putDown_12 1 rfl ?_
    refine x_ialdN (n := 4) (f := blk r 5 4) dX12_putDown_13 (hM.c5) (by omega) (by decide) ?_
    refine x_topi (y := r (5 + (thN v))) (blk_at (by omega)) ?_
    refine x_iconst dX12_putDown_14 ki_m1 ?_
    refine x_pc (pc' := 15) rfl ?_
    refine x_icmp_ne (x := r (5 + (thN v))) (y := (-1)) (tgt := 20) dX12_putDown_15 (by decide) (fun c15 => ?_) (fun c15 => ?_)
    · exact absurd ⟨c5, c15⟩ hn
    · refine x_iconst dX12_putDown_18 ki_m1 ?_
      exact x_iret dX12_putDown_19 rfl (xRet_i)
theorem Md_putDown_y {K : xG} {h y pm : Nat} {G0 G : xHp} {hl : xHl} {r : xRw} {sc : Nat × Nat × Int32} {A : Nat → Nat → Int32} {F : Nat → Int32} {wa sa : Nat → Int64} {q t : Nat} (hM : MW G0 G y hl r sc A F wa sa) (hO : HallOk hl) (hpm : F 49 = nI pm) (hp20 : pm ≤ 20) (hq : q < hl 0 3) (hm : r (5 + q) = nI t) (ht : t < 7) : xCall K mX12_putDown 4 0 0 [.ref y, .int (nI q)] h G (mdQ G0 h y (some (.int (nI t))) hl (layR r q t) sc (setA A 37 (keepP (A 37) pm r)) (keepF F pm) wa sa) := by
  refine x_entry (by decide) (ls := [(0, .ref y), (1, .int (nI q))]) rfl (Nat.le_of_ble_eq_true rfl) ?_
  have hB := hM.hB
  obtain ⟨o2, o3, o4, o5, o6, o7, o8, o9⟩ := id hO
  refine x_aload_n dX12_putDown_0 0 rfl ?_
  refine x_iload_n dX12_putDown_1 1 rfl ?_
  refine x_cV (N := mX12_isMender) (d' := 1) (mc := 0) (ms := 0) (cb := 0) (sb := 0) (As := [.int (nI q)]) (st := []) dX12_putDown_2 mX12_isMender_v lX12_364 rfl rfl (hM.1) rfl (by decide) (Nat.le_of_ble_eq_true rfl) (Md_isMender hM) rfl (st1 := [.int (bI (inR (nI q) (hl 0 3)))]) rfl ?_
  refine x_ifB_eq (tgt := 18) dX12_putDown_5 (by decide) (fun c5 => ?_) (fun c5 => ?_)
  · exact absurd c5 (by rw [inR_nI (by omega), decide_eq_true hq]; decide)
  · refine x_aload_n dX12_putDown_8 0 rfl ?_
    refine x_get (v := .ref (y + 5)) dX12_putDown_9 fX12_22 (hM.1) rfl ?_
    refine x_iload_n dX12_putDown_12 1 rfl ?_
    refine x_ialdN (n := 4) (f := blk r 5 4) dX12_putDown_13 (hM.c5) (by omega) (by decide) ?_
    refine x_topi (y := r (5 + q)) (blk_at (by omega)) ?_
    refine x_iconst dX12_putDown_14 ki_m1 ?_
    refine x_pc (pc' := 15) rfl ?_
    refine x_icmp_ne (x := r (5 + q)) (y := (-1)) (tgt := 20) dX12_putDown_15 (by decide) (fun c15 => ?_) (fun c15 => ?_)
    · refine x_aload_n dX12_putDown_20 0 rfl ?_
      refine x_cVe (N := mX12_keepsAct) (d' := 3) (mc := 0) (ms := 0) (cb := 0) (sb := 0) (As := []) (st := []) dX12_putDown_21 mX12_keepsAct_v lX12_428 rfl rfl (hM.1) rfl (by decide) (Nat.le_of_ble_eq_true rfl) (Md_keepsAct hM hpm hp20) rfl (sf := fun Gk => []) (fun _ => rfl) (fun Gk hNk => ?_)
      refine x_aload_n dX12_putDown_24 0 rfl ?_
      refine x_get (v := .ref (y + 5)) dX12_putDown_25 fX12_22 (hNk.1) rfl ?_
      refine x_iload_n dX12_putDown_28 1 rfl ?_
      refine x_ialdN (n := 4) (f := blk r 5 4) dX12_putDown_29 (hNk.c5) (by omega) (by decide) ?_
      refine x_topi (y := r (5 + q)) (blk_at (by omega)) ?_
      refine x_topi (y := nI t) hm ?_
      refine x_istore_n (ls' := [(2, .int (nI t)), (0, .ref y), (1, .int (nI q))]) dX12_putDown_30 (by decide) rfl ?_
      refine x_aload_n dX12_putDown_31 1 rfl ?_
      refine x_get (v := .ref (y + 13)) dX12_putDown_32 fX12_46 (hNk.1) rfl ?_
      refine x_pc (pc' := 35) rfl ?_
      refine x_iload_n dX12_putDown_35 0 rfl ?_
      refine x_iconst dX12_putDown_36 ki_1 ?_
      refine x_iastN (n := 7) (f := blk r 21 7) dX12_putDown_37 (hNk.c13) (by omega) (by decide) ?_
      have hM1 := hNk.s13 t (nI 1) (by omega)
      refine x_aload_n dX12_putDown_38 1 rfl ?_
      refine x_get (v := .ref (y + 5)) dX12_putDown_39 fX12_22 (hM1.1) rfl ?_
      refine x_iload_n dX12_putDown_42 2 rfl ?_
      refine x_iconst dX12_putDown_43 ki_m1 ?_
      refine x_iastN (n := 4) (f := blk (upd r (21 + t) (nI 1)) 5 4) dX12_putDown_44 (hM1.c5) (by omega) (by decide) ?_
      have hM2 := hM1.s5 q (-1) (by omega)
      refine x_aload_n dX12_putDown_45 1 rfl ?_
      refine x_get (v := .ref (y + 6)) dX12_putDown_46 fX12_25 (hM2.1) rfl ?_
      refine x_pc (pc' := 49) rfl ?_
      refine x_iload_n dX12_putDown_49 2 rfl ?_
      refine x_iconst dX12_putDown_50 ki_0 ?_
      refine x_iastN (n := 4) (f := blk (upd (upd r (21 + t) (nI 1)) (5 + q) (-1)) 9 4) dX12_putDown_51 (hM2.c6) (by omega) (by decide) ?_
      have hM3 := hM2.s6 q (nI 0) (by omega)
      refine x_iload_n dX12_putDown_52 0 rfl ?_
      exact x_iret dX12_putDown_53 rfl (xEx_i _ hM3 rfl rfl rfl)
    · exact absurd (hm.symm.trans c15) (nI_ne1 (by omega))
theorem Md_bring_n {K : xG} {h y : Nat} {G0 G : xHp} {hl : xHl} {r : xRw} {sc : Nat × Nat × Int32} {A : Nat → Nat → Int32} {F : Nat → Int32} {wa sa : Nat → Int64} {v : Int32} (hM : MW G0 G y hl r sc A F wa sa) (hO : HallOk hl) (hn : ¬ (inR v (hl 0 2) = true ∧ r (1 + thN v) < nI 99)) : xCall K mX12_bring 4 0 0 [.ref y, .int v] h G (xRet (some (.int (-1))) h G) := by
  refine x_entry (by decide) (ls := [(0, .ref y), (1, .int v)]) rfl (Nat.le_of_ble_eq_true rfl) ?_
  have hB := hM.hB
  obtain ⟨o2, o3, o4, o5, o6, o7, o8, o9⟩ := id hO
  refine x_aload_n dX12_bring_0 0 rfl ?_
  refine x_iload_n dX12_bring_1 1 rfl ?_
  refine x_cV (N := mX12_isSort) (d' := 1) (mc := 0) (ms := 0) (cb := 0) (sb := 0) (As := [.int v]) (st := []) dX12_bring_2 mX12_isSort_v lX12_367 rfl rfl (hM.1) rfl (by decide) (Nat.le_of_ble_eq_true rfl) (Md_isSort hM) rfl (st1 := [.int (bI (inR v (hl 0 2)))]) rfl ?_
  refine x_ifB_eq (tgt := 19) dX12_bring_5 (by decide) (fun c5 => ?_) (fun c5 => ?_)
  · refine x_iconst dX12_bring_19 ki_m1 ?_
    exact x_iret dX12_bring_20 rfl (xRet_i)
  · obtain ⟨g1, g2⟩ := inR_th c5
    refine x_leq (ls' := [(0, .ref y), (1, .int (nI (thN v)))]) (by rw [← g2]) ?_
    refine x_aload_n dX12_bring_8 0 rfl ?_
    refine x_get (v := .ref (y + 3)) dX12_bring_9 fX12_16 (hM.1) rfl ?_
    refine x_iload_n dX12_bring_12 1 rfl ?_
    refine x_ialdN (n := 4) (f := blk r 1 4) dX12_bring_13 (hM.c3) (by omega) (by decide) ?_
    refine x_topi (y := r (1 + (thN v))) (blk_at (by omega)) ?_
    refine x_bipush dX12_bring_14 kb_99 ?_
    refine x_pc (pc' := 16) rfl ?_
    refine x_icmp_lt (x := r (1 + (thN v))) (y := nI 99) (tgt := 21) dX12_bring_16 (by decide) (fun c16 => ?_) (fun c16 => ?_)
    · exact absurd ⟨c5, c16⟩ hn
    · refine x_iconst dX12_bring_19 ki_m1 ?_
      exact x_iret dX12_bring_20 rfl (xRet_i)
theorem Md_bring_y {K : xG} {h y pm : Nat} {G0 G : xHp} {hl : xHl} {r : xRw} {sc : Nat × Nat × Int32} {A : Nat → Nat → Int32} {F : Nat → Int32} {wa sa : Nat → Int64} {t : Nat} (hM : MW G0 G y hl r sc A F wa sa) (hO : HallOk hl) (hpm : F 49 = nI pm) (hp20 : pm ≤ 20) (hq : t < hl 0 2) (hp : r (1 + t) < nI 99) : xCall K mX12_bring 4 0 0 [.ref y, .int (nI t)] h G (mdQ G0 h y (some (.int (r (1 + t) + nI 1))) hl (upd r (1 + t) (r (1 + t) + nI 1)) sc (setA A 37 (keepP (A 37) pm r)) (keepF F pm) wa sa) := by
  refine x_entry (by decide) (ls := [(0, .ref y), (1, .int (nI t))]) rfl (Nat.le_of_ble_eq_true rfl) ?_
  have hB := hM.hB
  obtain ⟨o2, o3, o4, o5, o6, o7, o8, o9⟩ := id hO
  refine x_aload_n dX12_bring_0 0 rfl ?_
  refine x_iload_n dX12_bring_1 1 rfl ?_
  refine x_cV (N := mX12_isSort) (d' := 1) (mc := 0) (ms := 0) (cb := 0) (sb := 0) (As := [.int (nI t)]) (st := []) dX12_bring_2 mX12_isSort_v lX12_367 rfl rfl (hM.1) rfl (by decide) (Nat.le_of_ble_eq_true rfl) (Md_isSort hM) rfl (st1 := [.int (bI (inR (nI t) (hl 0 2)))]) rfl ?_
  refine x_ifB_eq (tgt := 19) dX12_bring_5 (by decide) (fun c5 => ?_) (fun c5 => ?_)
  · exact absurd c5 (by rw [inR_nI (by omega), decide_eq_true hq]; decide)
  · refine x_aload_n dX12_bring_8 0 rfl ?_
    refine x_get (v := .ref (y + 3)) dX12_bring_9 fX12_16 (hM.1) rfl ?_
    refine x_iload_n dX12_bring_12 1 rfl ?_
    refine x_ialdN (n := 4) (f := blk r 1 4) dX12_bring_13 (hM.c3) (by omega) (by decide) ?_
    refine x_topi (y := r (1 + t)) (blk_at (by omega)) ?_
    refine x_bipush dX12_bring_14 kb_99 ?_
    refine x_pc (pc' := 16) rfl ?_
    refine x_icmp_lt (x := r (1 + t)) (y := nI 99) (tgt := 21) dX12_bring_16 (by decide) (fun c16 => ?_) (fun c16 => ?_)
    · refine x_aload_n dX12_bring_21 0 rfl ?_
      refine x_cVe (N := mX12_keepsAct) (d' := 3) (mc := 0) (ms := 0) (cb := 0) (sb := 0) (As := []) (st := []) dX12_bring_22 mX12_keepsAct_v lX12_428 rfl rfl (hM.1) rfl (by decide) (Nat.le_of_ble_eq_true rfl) (Md_keepsAct hM hpm hp20) rfl (sf := fun Gk => []) (fun _ => rfl) (fun Gk hNk => ?_)
      refine x_aload_n dX12_bring_25 0 rfl ?_
      refine x_get (v := .ref (y + 3)) dX12_bring_26 fX12_16 (hNk.1) rfl ?_
      refine x_iload_n dX12_bring_29 1 rfl ?_
      refine x_dup2 dX12_bring_30 rfl rfl ?_
      refine x_ialdN (n := 4) (f := blk r 1 4) dX12_bring_31 (hNk.c3) (by omega) (by decide) ?_
      refine x_topi (y := r (1 + t)) (blk_at (by omega)) ?_
      refine x_iconst dX12_bring_32 ki_1 ?_
      refine x_iadd dX12_bring_33 ?_
      refine x_pc (pc' := 34) rfl ?_
      refine x_iastN (n := 4) (f := blk r 1 4) dX12_bring_34 (hNk.c3) (by omega) (by decide) ?_
      have hM1 := hNk.s3 t ((r (1 + t)) + (nI 1)) (by omega)
      refine x_aload_n dX12_bring_35 0 rfl ?_
      refine x_get (v := .ref (y + 3)) dX12_bring_36 fX12_16 (hM1.1) rfl ?_
      refine x_iload_n dX12_bring_39 1 rfl ?_
      refine x_ialdN (n := 4) (f := blk (upd r (1 + t) ((r (1 + t)) + (nI 1))) 1 4) dX12_bring_40 (hM1.c3) (by omega) (by decide) ?_
      refine x_topi (y := (upd r (1 + t) ((r (1 + t)) + (nI 1))) (1 + t)) (blk_at (by omega)) ?_
      exact x_iret dX12_bring_41 rfl (xEx_i _ hM1 (by rw [upd_at]) rfl rfl)
    · exact absurd hp c16
