theorem Md_take_loop0 {K : xG} {h y : Nat} {G0 : xHp} {hl : xHl} {r : xRw} {sc : Nat × Nat × Int32} {A : Nat → Nat → Int32} {F : Nat → Int32} {q : Nat} {rv : Option (List Nat)} (hk : Kept (A 44) hl r sc) (hb : ∀ i j, hl i j < 1000000) (hO : HallOk hl) (hV : RvR A sc rv) (hrow : RowOk hl r) (hq : q < hl 0 3) (hf : r (5 + q) = -1) : ∀ (i t : Nat) (w1 k1 : Nat → Int64) (G1 : xHp), t + i = hl 0 4 → MW G0 G1 y hl r sc A (tF F (tryF rv (candT hl r q) (-1, savG hl rv r) t)) w1 k1 → xV K mX12_take 12 0 0 h G1 27 [(3, .int (nI t)), (0, .ref y), (1, .int (nI q)), (2, .int (nI 0))] [] (mdX G0 h y (some (.int (tryF rv (candT hl r q) (-1, savG hl rv r) (hl 0 4)).1)) hl r sc A (tF F (tryF rv (candT hl r q) (-1, savG hl rv r) (hl 0 4)))) := by
  obtain ⟨o2, o3, o4, o5, o6, o7, o8, o9⟩ := id hO
  intro i
  induction i with
  | zero =>
    intro t w1 k1 G1 hi hN
    have hi0 : t = hl 0 4 := by omega
    subst hi0
    refine x_iload_n dX12_take_27 0 rfl ?_
    refine x_aload_n dX12_take_28 1 rfl ?_
    refine x_get (v := .ref (y + 1)) dX12_take_29 fX12_9 (hN.1) rfl ?_
    refine x_iconst dX12_take_32 ki_4 ?_
    refine x_ialdN (n := 9) (f := scal hl r sc) dX12_take_33 (hN.c1) (by decide) (by decide) ?_
    refine x_topi (y := nI (hl 0 4)) rfl ?_
    refine x_icmpN_ge (tgt := 63) dX12_take_34 (by decide) (by omega) (by omega) (fun c34 => ?_) (fun c34 => ?_)
    · refine x_iload_n dX12_take_63 3 rfl ?_
      refine x_ifN_ne (tgt := 74) dX12_take_64 (by decide) (by omega) (fun c64 => ?_) (fun c64 => ?_)
      · exact absurd c64 (by decide)
      · refine x_aload_n dX12_take_67 1 rfl ?_
        refine x_pc (pc' := 68) rfl ?_
        refine x_get (v := .int ((tryF rv (candT hl r q) (-1, savG hl rv r) (hl 0 4)).1)) dX12_take_68 fX12_459 (hN.1) rfl ?_
        refine x_goto (tgt := 78) dX12_take_71 (by decide) ?_
        exact x_iret dX12_take_78 rfl (xEx_i ((w1, k1), G1) hN rfl rfl rfl)
    · exact absurd c34 (by omega)
  | succ i ih =>
    intro t w1 k1 G1 hi hN
    have o5t := o5 t
    refine x_iload_n dX12_take_27 0 rfl ?_
    refine x_aload_n dX12_take_28 1 rfl ?_
    refine x_get (v := .ref (y + 1)) dX12_take_29 fX12_9 (hN.1) rfl ?_
    refine x_iconst dX12_take_32 ki_4 ?_
    refine x_ialdN (n := 9) (f := scal hl r sc) dX12_take_33 (hN.c1) (by decide) (by decide) ?_
    refine x_topi (y := nI (hl 0 4)) rfl ?_
    refine x_icmpN_ge (tgt := 63) dX12_take_34 (by decide) (by omega) (by omega) (fun c34 => ?_) (fun c34 => ?_)
    · exact absurd c34 (by omega)
    · refine x_aload_n dX12_take_37 1 rfl ?_
      refine x_iload_n dX12_take_38 2 rfl ?_
      refine x_iload_n dX12_take_39 0 rfl ?_
      refine x_pc (pc' := 40) rfl ?_
      refine x_cV (N := mX12_canTake) (d' := 0) (mc := 0) (ms := 0) (cb := 0) (sb := 0) (As := [.int (nI q), .int (nI t)]) (st := []) dX12_take_40 mX12_canTake_v lX12_383 rfl rfl (hN.1) rfl (by decide) (Nat.le_of_ble_eq_true rfl) (Md_canTake hN (by omega) (by omega) (by have := o5 t (by omega); omega)) rfl (st1 := [.int (bI (canT hl r q t))]) rfl ?_
      refine x_ifB_eq (tgt := 57) dX12_take_43 (by decide) (fun c43 => ?_) (fun c43 => ?_)
      · refine x_iinc (v := nI (t + 1)) (ls' := [(3, .int (nI (t + 1))), (0, .ref y), (1, .int (nI q)), (2, .int (nI 0))]) dX12_take_57 0 rfl (nIs _) (by decide) rfl ?_
        refine x_goto (tgt := 27) dX12_take_60 (by decide) ?_
        exact ih (t + 1) _ _ _ (by omega) (by rw [tryF_n (if_neg (by rw [c43]; decide))]; exact hN)
      · refine x_aload_n dX12_take_46 1 rfl ?_
        refine x_iload_n dX12_take_47 2 rfl ?_
        refine x_iload_n dX12_take_48 0 rfl ?_
        obtain ⟨-, hk2, -⟩ := of_decide_eq_true c43
        refine x_cVe (N := mX12_takesIt) (d' := 1) (mc := 0) (ms := 0) (cb := 0) (sb := 0) (As := [.int (nI q), .int (nI t)]) (st := []) dX12_take_49 mX12_takesIt_v lX12_395 rfl rfl (hN.1) rfl (by decide) (Nat.le_of_ble_eq_true rfl) (Md_takesIt hN (by omega) (by omega) (by have := o5 t (by omega); omega) hk2 (by have := hO.2.2.2.2.1 (q * 4 + hl 4 t) (by have := hO.1; have := hO.2.2.2.1 t (by omega); omega); omega)) rfl (sf := fun G3 => []) (fun _ => rfl) (fun G3 hN3 => ?_)
        refine x_aload_n dX12_take_52 1 rfl ?_
        refine x_iload_n dX12_take_53 0 rfl ?_
        refine x_cVe (N := mX12_tries) (d' := 10) (mc := 0) (ms := 0) (cb := 0) (sb := 0) (As := [.int (nI t)]) (st := []) dX12_take_54 mX12_tries_v lX12_462 rfl rfl (hN3.1) rfl (by decide) (Nat.le_of_ble_eq_true rfl) (Md_tries (F := cF F 1 3650) (b := (tryF rv (candT hl r q) (-1, savG hl rv r) t).1) (m := (tryF rv (candT hl r q) (-1, savG hl rv r) t).2) hN3 hk hb hO hV (begin_ok hO hrow hq hf (by omega) c43)) rfl (sf := fun e2 => []) (fun _ => rfl) (fun e2 hq2 => ?_)
        obtain ⟨⟨w2, k2⟩, G2⟩ := e2
        have hN0 : MW G0 G2 y (lbH hl hl) r sc A (tF (cF F 1 3650) (trS (tryF rv (candT hl r q) (-1, savG hl rv r) t) (nI t) (savG hl rv (beginR hl r q t)))) w2 k2 := hq2
        rw [lbH_self, tryF_y (p := (hl, (beginR hl r q t))) (if_pos c43)] at hN0
        have hN2 : MW G0 G2 y hl r sc A (tF F (tryF rv (candT hl r q) (-1, savG hl rv r) (t + 1))) w2 k2 := hN0.fc rfl
        refine x_iinc (v := nI (t + 1)) (ls' := [(3, .int (nI (t + 1))), (0, .ref y), (1, .int (nI q)), (2, .int (nI 0))]) dX12_take_57 0 rfl (nIs _) (by decide) rfl ?_
        refine x_pc (pc' := 60) rfl ?_
        refine x_goto (tgt := 27) dX12_take_60 (by decide) ?_
        exact ih (t + 1) _ _ _ (by omega) hN2
theorem Md_take_y0 {K : xG} {h y : Nat} {G0 G : xHp} {hl : xHl} {r : xRw} {sc : Nat × Nat × Int32} {A : Nat → Nat → Int32} {F : Nat → Int32} {wa sa : Nat → Int64} {q : Nat} (hM : MW G0 G y hl r sc A F wa sa) {rv : Option (List Nat)} (hO : HallOk hl) (hV : RvR A sc rv) (hrow : RowOk hl r) (hq : q < hl 0 3) (hf : r (5 + q) = -1) : xCall K mX12_take 12 0 0 [.ref y, .int (nI q), .int (nI 0)] h G (mdX G0 h y (some (.int (tryF rv (candT hl r q) (-1, savG hl rv r) (hl 0 4)).1)) hl r sc (setA A 44 (svI (ovr A hl r sc) 3600 9)) (tF F (tryF rv (candT hl r q) (-1, savG hl rv r) (hl 0 4)))) := by
  refine x_entry (by decide) (ls := [(0, .ref y), (1, .int (nI q)), (2, .int (nI 0))]) rfl (Nat.le_of_ble_eq_true rfl) ?_
  have hB := hM.hB
  obtain ⟨o2, o3, o4, o5, o6, o7, o8, o9⟩ := id hO
  refine x_aload_n dX12_take_0 0 rfl ?_
  refine x_iload_n dX12_take_1 1 rfl ?_
  refine x_cV (N := mX12_isFree) (d' := 2) (mc := 0) (ms := 0) (cb := 0) (sb := 0) (As := [.int (nI q)]) (st := []) dX12_take_2 mX12_isFree_v lX12_431 rfl rfl (hM.1) rfl (by decide) (Nat.le_of_ble_eq_true rfl) (Md_isFree hM o3) rfl (st1 := [.int (bI (inR (nI q) (hl 0 3) && decide (r (5 + thN (nI q)) = -1)))]) rfl ?_
  refine x_ifB_eq (tgt := 18) dX12_take_5 (by decide) (fun c5 => ?_) (fun c5 => ?_)
  · exact absurd c5 (by rw [inR_nI (by omega), thN_nI (by omega), decide_eq_true hq, decide_eq_true hf]; decide)
  · refine x_iload_n dX12_take_8 2 rfl ?_
    refine x_i2l dX12_take_9 ?_
    refine x_lconst (v := 0) dX12_take_10 rfl ?_
    refine x_lconst (v := 1) dX12_take_11 rfl ?_
    refine x_cS (N := mX12_in) (d' := 0) (mc := 0) (ms := 0) (cb := 0) (sb := 0) (As := [.long ((nI 0).toInt64), .long 0, .long 1]) (st := []) dX12_take_12 mX12_in_s lX12_155 rfl (by decide) (Nat.le_of_ble_eq_true rfl) (Md_in) rfl (st1 := [.int (bI (decide (0 ≤ (nI 0).toInt64 ∧ (nI 0).toInt64 ≤ 1)))]) rfl ?_
    refine x_pc (pc' := 15) rfl ?_
    refine x_ifB_ne (tgt := 21) dX12_take_15 (by decide) (fun c15 => ?_) (fun c15 => ?_)
    · refine x_aload_n dX12_take_21 0 rfl ?_
      refine x_cVe (N := mX12_triesNothing) (d' := 11) (mc := 0) (ms := 0) (cb := 0) (sb := 0) (As := []) (st := []) dX12_take_22 mX12_triesNothing_v lX12_465 rfl rfl (hM.1) rfl (by decide) (Nat.le_of_ble_eq_true rfl) (Md_triesNothing hM hO hV hrow) rfl (sf := fun e2 => []) (fun _ => rfl) (fun e2 hq2 => ?_)
      obtain ⟨⟨w2, k2⟩, G2⟩ := e2
      have hN2 : MW G0 G2 y hl r sc (setA A 44 (svI (ovr A hl r sc) 3600 9)) (tF F (-1, savG hl rv r)) w2 k2 := hq2
      refine x_iconst dX12_take_25 ki_0 ?_
      refine x_istore_n (ls' := [(3, .int (nI 0)), (0, .ref y), (1, .int (nI q)), (2, .int (nI 0))]) dX12_take_26 (by decide) rfl ?_
      exact Md_take_loop0 (A := (setA A 44 (svI (ovr A hl r sc) 3600 9))) (Kept_sv (A := A)) hB hO (hV.set (by omega)) hrow hq hf (hl 0 4) 0 w2 k2 G2 (by omega) hN2
    · exact absurd c15 (by decide)
theorem Md_part_loop0 {K : xG} {h y : Nat} {G0 : xHp} {hl : xHl} {r : xRw} {sc : Nat × Nat × Int32} {A : Nat → Nat → Int32} {F : Nat → Int32} {rv : Option (List Nat)} (hk : Kept (A 44) hl r sc) (hb : ∀ i j, hl i j < 1000000) (hO : HallOk hl) (hV : RvR A sc rv) (hrow : RowOk hl r) (hpp : ∀ s, s < hl 0 2 → ∃ p, p ≤ 100 ∧ r (1 + s) = nI p) : ∀ (i t : Nat) (w1 k1 : Nat → Int64) (G1 : xHp), t + i = hl 0 2 → MW G0 G1 y hl r sc A (tF F (tryF rv (fun s => some (hl, partR r s)) (-1, savG hl rv r) t)) w1 k1 → xV K mX12_part 12 0 0 h G1 26 [(2, .int (nI t)), (0, .ref y), (1, .int (nI 0))] [] (mdX G0 h y (some (.int (tryF rv (fun s => some (hl, partR r s)) (-1, savG hl rv r) (hl 0 2)).1)) hl r sc A (tF F (tryF rv (fun s => some (hl, partR r s)) (-1, savG hl rv r) (hl 0 2)))) := by
  obtain ⟨o2, o3, o4, o5, o6, o7, o8, o9⟩ := id hO
  intro i
  induction i with
  | zero =>
    intro t w1 k1 G1 hi hN
    have hi0 : t = hl 0 2 := by omega
    subst hi0
    refine x_iload_n dX12_part_26 0 rfl ?_
    refine x_aload_n dX12_part_27 1 rfl ?_
    refine x_get (v := .ref (y + 1)) dX12_part_28 fX12_9 (hN.1) rfl ?_
    refine x_iconst dX12_part_31 ki_2 ?_
    refine x_ialdN (n := 9) (f := scal hl r sc) dX12_part_32 (hN.c1) (by decide) (by decide) ?_
    refine x_topi (y := nI (hl 0 2)) rfl ?_
    refine x_icmpN_ge (tgt := 57) dX12_part_33 (by decide) (by omega) (by omega) (fun c33 => ?_) (fun c33 => ?_)
    · refine x_iload_n dX12_part_57 2 rfl ?_
      refine x_ifN_ne (tgt := 68) dX12_part_58 (by decide) (by omega) (fun c58 => ?_) (fun c58 => ?_)
      · exact absurd c58 (by decide)
      · refine x_aload_n dX12_part_61 1 rfl ?_
        refine x_pc (pc' := 62) rfl ?_
        refine x_get (v := .int ((tryF rv (fun s => some (hl, partR r s)) (-1, savG hl rv r) (hl 0 2)).1)) dX12_part_62 fX12_459 (hN.1) rfl ?_
        refine x_goto (tgt := 72) dX12_part_65 (by decide) ?_
        exact x_iret dX12_part_72 rfl (xEx_i ((w1, k1), G1) hN rfl rfl rfl)
    · exact absurd c33 (by omega)
  | succ i ih =>
    intro t w1 k1 G1 hi hN
    have o5t := o5 t
    refine x_iload_n dX12_part_26 0 rfl ?_
    refine x_aload_n dX12_part_27 1 rfl ?_
    refine x_get (v := .ref (y + 1)) dX12_part_28 fX12_9 (hN.1) rfl ?_
    refine x_iconst dX12_part_31 ki_2 ?_
    refine x_ialdN (n := 9) (f := scal hl r sc) dX12_part_32 (hN.c1) (by decide) (by decide) ?_
    refine x_topi (y := nI (hl 0 2)) rfl ?_
    refine x_icmpN_ge (tgt := 57) dX12_part_33 (by decide) (by omega) (by omega) (fun c33 => ?_) (fun c33 => ?_)
    · exact absurd c33 (by omega)
    · refine x_aload_n dX12_part_36 1 rfl ?_
      refine x_get (v := .ref (y + 3)) dX12_part_37 fX12_16 (hN.1) rfl ?_
      refine x_iload_n dX12_part_40 0 rfl ?_
      refine x_pc (pc' := 41) rfl ?_
      refine x_dup2 dX12_part_41 rfl rfl ?_
      refine x_ialdN (n := 4) (f := blk r 1 4) dX12_part_42 (hN.c3) (by omega) (by decide) ?_
      refine x_topi (y := r (1 + t)) (blk_at (by omega)) ?_
      refine x_iconst dX12_part_43 ki_1 ?_
      refine x_iadd dX12_part_44 ?_
      refine x_iastN (n := 4) (f := blk r 1 4) dX12_part_45 (hN.c3) (by omega) (by decide) ?_
      have hM1 := hN.s3 t ((r (1 + t)) + (nI 1)) (by omega)
      refine x_aload_n dX12_part_46 1 rfl ?_
      refine x_iload_n dX12_part_47 0 rfl ?_
      refine x_cVe (N := mX12_tries) (d' := 10) (mc := 0) (ms := 0) (cb := 0) (sb := 0) (As := [.int (nI t)]) (st := []) dX12_part_48 mX12_tries_v lX12_462 rfl rfl (hM1.1) rfl (by decide) (Nat.le_of_ble_eq_true rfl) (Md_tries (F := cF F 1 3650) (b := (tryF rv (fun s => some (hl, partR r s)) (-1, savG hl rv r) t).1) (m := (tryF rv (fun s => some (hl, partR r s)) (-1, savG hl rv r) t).2) hM1 hk hb hO hV (part_ok hO hrow (by omega) hpp)) rfl (sf := fun e2 => []) (fun _ => rfl) (fun e2 hq2 => ?_)
      obtain ⟨⟨w2, k2⟩, G2⟩ := e2
      have hN0 : MW G0 G2 y (lbH hl hl) r sc A (tF (cF F 1 3650) (trS (tryF rv (fun s => some (hl, partR r s)) (-1, savG hl rv r) t) (nI t) (savG hl rv (upd r (1 + t) ((r (1 + t)) + (nI 1)))))) w2 k2 := hq2
      rw [lbH_self, tryF_y (p := (hl, (upd r (1 + t) ((r (1 + t)) + (nI 1))))) (rfl)] at hN0
      have hN2 : MW G0 G2 y hl r sc A (tF F (tryF rv (fun s => some (hl, partR r s)) (-1, savG hl rv r) (t + 1))) w2 k2 := hN0.fc rfl
      refine x_iinc (v := nI (t + 1)) (ls' := [(2, .int (nI (t + 1))), (0, .ref y), (1, .int (nI 0))]) dX12_part_51 0 rfl (nIs _) (by decide) rfl ?_
      refine x_goto (tgt := 26) dX12_part_54 (by decide) ?_
      exact ih (t + 1) _ _ _ (by omega) hN2
theorem Md_part_y0 {K : xG} {h y : Nat} {G0 G : xHp} {hl : xHl} {r : xRw} {sc : Nat × Nat × Int32} {A : Nat → Nat → Int32} {F : Nat → Int32} {wa sa : Nat → Int64} (hM : MW G0 G y hl r sc A F wa sa) {rv : Option (List Nat)} (hO : HallOk hl) (hV : RvR A sc rv) (hrow : RowOk hl r) (h1 : 0 < hl 0 0) (hpp : ∀ s, s < hl 0 2 → ∃ p, p ≤ 100 ∧ r (1 + s) = nI p) : xCall K mX12_part 12 0 0 [.ref y, .int (nI 0)] h G (mdX G0 h y (some (.int (tryF rv (fun s => some (hl, partR r s)) (-1, savG hl rv r) (hl 0 2)).1)) hl r sc (setA A 44 (svI (ovr A hl r sc) 3600 9)) (tF F (tryF rv (fun s => some (hl, partR r s)) (-1, savG hl rv r) (hl 0 2)))) := by
  refine x_entry (by decide) (ls := [(0, .ref y), (1, .int (nI 0))]) rfl (Nat.le_of_ble_eq_true rfl) ?_
  have hB := hM.hB
  obtain ⟨o2, o3, o4, o5, o6, o7, o8, o9⟩ := id hO
  refine x_aload_n dX12_part_0 0 rfl ?_
  refine x_cV (N := mX12_isHall) (d' := 0) (mc := 0) (ms := 0) (cb := 0) (sb := 0) (As := []) (st := []) dX12_part_1 mX12_isHall_v lX12_425 rfl rfl (hM.1) rfl (by decide) (Nat.le_of_ble_eq_true rfl) (Md_isHall hM) rfl (st1 := [.int (bI (decide (0 < hl 0 0)))]) rfl ?_
  refine x_ifB_eq (tgt := 17) dX12_part_4 (by decide) (fun c4 => ?_) (fun c4 => ?_)
  · exact absurd c4 (by rw [decide_eq_true h1]; decide)
  · refine x_iload_n dX12_part_7 1 rfl ?_
    refine x_i2l dX12_part_8 ?_
    refine x_lconst (v := 0) dX12_part_9 rfl ?_
    refine x_lconst (v := 1) dX12_part_10 rfl ?_
    refine x_cS (N := mX12_in) (d' := 0) (mc := 0) (ms := 0) (cb := 0) (sb := 0) (As := [.long ((nI 0).toInt64), .long 0, .long 1]) (st := []) dX12_part_11 mX12_in_s lX12_155 rfl (by decide) (Nat.le_of_ble_eq_true rfl) (Md_in) rfl (st1 := [.int (bI (decide (0 ≤ (nI 0).toInt64 ∧ (nI 0).toInt64 ≤ 1)))]) rfl ?_
    refine x_ifB_ne (tgt := 20) dX12_part_14 (by decide) (fun c14 => ?_) (fun c14 => ?_)
    · refine x_pc (pc' := 20) rfl ?_
      refine x_aload_n dX12_part_20 0 rfl ?_
      refine x_cVe (N := mX12_triesNothing) (d' := 11) (mc := 0) (ms := 0) (cb := 0) (sb := 0) (As := []) (st := []) dX12_part_21 mX12_triesNothing_v lX12_465 rfl rfl (hM.1) rfl (by decide) (Nat.le_of_ble_eq_true rfl) (Md_triesNothing hM hO hV hrow) rfl (sf := fun e2 => []) (fun _ => rfl) (fun e2 hq2 => ?_)
      obtain ⟨⟨w2, k2⟩, G2⟩ := e2
      have hN2 : MW G0 G2 y hl r sc (setA A 44 (svI (ovr A hl r sc) 3600 9)) (tF F (-1, savG hl rv r)) w2 k2 := hq2
      refine x_iconst dX12_part_24 ki_0 ?_
      refine x_istore_n (ls' := [(2, .int (nI 0)), (0, .ref y), (1, .int (nI 0))]) dX12_part_25 (by decide) rfl ?_
      exact Md_part_loop0 (A := (setA A 44 (svI (ovr A hl r sc) 3600 9))) (Kept_sv (A := A)) hB hO (hV.set (by omega)) hrow hpp (hl 0 2) 0 w2 k2 G2 (by omega) hN2
    · exact absurd c14 (by decide)
theorem Md_take_loop1 {K : xG} {h y : Nat} {G0 : xHp} {hl : xHl} {r : xRw} {sc : Nat × Nat × Int32} {A : Nat → Nat → Int32} {F : Nat → Int32} {q : Nat} {rv : Option (List Nat)} (hk : Kept (A 44) hl r sc) (hb : ∀ i j, hl i j < 1000000) (hO : HallOk hl) (hV : RvR A sc rv) (hrow : RowOk hl r) (hq : q < hl 0 3) (hf : r (5 + q) = -1) : ∀ (i t : Nat) (w1 k1 : Nat → Int64) (G1 : xHp), t + i = hl 0 4 → MW G0 G1 y hl r sc A (tF F (tryF rv (candT hl r q) (-1, savG hl rv r) t)) w1 k1 → xV K mX12_take 12 0 0 h G1 27 [(3, .int (nI t)), (0, .ref y), (1, .int (nI q)), (2, .int (nI 1))] [] (mdX G0 h y (some (.int (tryF rv (candT hl r q) (-1, savG hl rv r) (hl 0 4)).2)) hl r sc A (tF F (tryF rv (candT hl r q) (-1, savG hl rv r) (hl 0 4)))) := by
  obtain ⟨o2, o3, o4, o5, o6, o7, o8, o9⟩ := id hO
  intro i
  induction i with
  | zero =>
    intro t w1 k1 G1 hi hN
    have hi0 : t = hl 0 4 := by omega
    subst hi0
    refine x_iload_n dX12_take_27 0 rfl ?_
    refine x_aload_n dX12_take_28 1 rfl ?_
    refine x_get (v := .ref (y + 1)) dX12_take_29 fX12_9 (hN.1) rfl ?_
    refine x_iconst dX12_take_32 ki_4 ?_
    refine x_ialdN (n := 9) (f := scal hl r sc) dX12_take_33 (hN.c1) (by decide) (by decide) ?_
    refine x_topi (y := nI (hl 0 4)) rfl ?_
    refine x_icmpN_ge (tgt := 63) dX12_take_34 (by decide) (by omega) (by omega) (fun c34 => ?_) (fun c34 => ?_)
    · refine x_iload_n dX12_take_63 3 rfl ?_
      refine x_ifN_ne (tgt := 74) dX12_take_64 (by decide) (by omega) (fun c64 => ?_) (fun c64 => ?_)
      · refine x_aload_n dX12_take_74 1 rfl ?_
        refine x_pc (pc' := 75) rfl ?_
        refine x_get (v := .int ((tryF rv (candT hl r q) (-1, savG hl rv r) (hl 0 4)).2)) dX12_take_75 fX12_456 (hN.1) rfl ?_
        exact x_iret dX12_take_78 rfl (xEx_i ((w1, k1), G1) hN rfl rfl rfl)
      · exact absurd c64 (by decide)
    · exact absurd c34 (by omega)
  | succ i ih =>
    intro t w1 k1 G1 hi hN
    have o5t := o5 t
    refine x_iload_n dX12_take_27 0 rfl ?_
    refine x_aload_n dX12_take_28 1 rfl ?_
    refine x_get (v := .ref (y + 1)) dX12_take_29 fX12_9 (hN.1) rfl ?_
    refine x_iconst dX12_take_32 ki_4 ?_
    refine x_ialdN (n := 9) (f := scal hl r sc) dX12_take_33 (hN.c1) (by decide) (by decide) ?_
    refine x_topi (y := nI (hl 0 4)) rfl ?_
    refine x_icmpN_ge (tgt := 63) dX12_take_34 (by decide) (by omega) (by omega) (fun c34 => ?_) (fun c34 => ?_)
    · exact absurd c34 (by omega)
    · refine x_aload_n dX12_take_37 1 rfl ?_
      refine x_iload_n dX12_take_38 2 rfl ?_
      refine x_iload_n dX12_take_39 0 rfl ?_
      refine x_pc (pc' := 40) rfl ?_
      refine x_cV (N := mX12_canTake) (d' := 0) (mc := 0) (ms := 0) (cb := 0) (sb := 0) (As := [.int (nI q), .int (nI t)]) (st := []) dX12_take_40 mX12_canTake_v lX12_383 rfl rfl (hN.1) rfl (by decide) (Nat.le_of_ble_eq_true rfl) (Md_canTake hN (by omega) (by omega) (by have := o5 t (by omega); omega)) rfl (st1 := [.int (bI (canT hl r q t))]) rfl ?_
      refine x_ifB_eq (tgt := 57) dX12_take_43 (by decide) (fun c43 => ?_) (fun c43 => ?_)
      · refine x_iinc (v := nI (t + 1)) (ls' := [(3, .int (nI (t + 1))), (0, .ref y), (1, .int (nI q)), (2, .int (nI 1))]) dX12_take_57 0 rfl (nIs _) (by decide) rfl ?_
        refine x_goto (tgt := 27) dX12_take_60 (by decide) ?_
        exact ih (t + 1) _ _ _ (by omega) (by rw [tryF_n (if_neg (by rw [c43]; decide))]; exact hN)
      · refine x_aload_n dX12_take_46 1 rfl ?_
        refine x_iload_n dX12_take_47 2 rfl ?_
        refine x_iload_n dX12_take_48 0 rfl ?_
        obtain ⟨-, hk2, -⟩ := of_decide_eq_true c43
        refine x_cVe (N := mX12_takesIt) (d' := 1) (mc := 0) (ms := 0) (cb := 0) (sb := 0) (As := [.int (nI q), .int (nI t)]) (st := []) dX12_take_49 mX12_takesIt_v lX12_395 rfl rfl (hN.1) rfl (by decide) (Nat.le_of_ble_eq_true rfl) (Md_takesIt hN (by omega) (by omega) (by have := o5 t (by omega); omega) hk2 (by have := hO.2.2.2.2.1 (q * 4 + hl 4 t) (by have := hO.1; have := hO.2.2.2.1 t (by omega); omega); omega)) rfl (sf := fun G3 => []) (fun _ => rfl) (fun G3 hN3 => ?_)
        refine x_aload_n dX12_take_52 1 rfl ?_
        refine x_iload_n dX12_take_53 0 rfl ?_
        refine x_cVe (N := mX12_tries) (d' := 10) (mc := 0) (ms := 0) (cb := 0) (sb := 0) (As := [.int (nI t)]) (st := []) dX12_take_54 mX12_tries_v lX12_462 rfl rfl (hN3.1) rfl (by decide) (Nat.le_of_ble_eq_true rfl) (Md_tries (F := cF F 1 3650) (b := (tryF rv (candT hl r q) (-1, savG hl rv r) t).1) (m := (tryF rv (candT hl r q) (-1, savG hl rv r) t).2) hN3 hk hb hO hV (begin_ok hO hrow hq hf (by omega) c43)) rfl (sf := fun e2 => []) (fun _ => rfl) (fun e2 hq2 => ?_)
        obtain ⟨⟨w2, k2⟩, G2⟩ := e2
        have hN0 : MW G0 G2 y (lbH hl hl) r sc A (tF (cF F 1 3650) (trS (tryF rv (candT hl r q) (-1, savG hl rv r) t) (nI t) (savG hl rv (beginR hl r q t)))) w2 k2 := hq2
        rw [lbH_self, tryF_y (p := (hl, (beginR hl r q t))) (if_pos c43)] at hN0
        have hN2 : MW G0 G2 y hl r sc A (tF F (tryF rv (candT hl r q) (-1, savG hl rv r) (t + 1))) w2 k2 := hN0.fc rfl
        refine x_iinc (v := nI (t + 1)) (ls' := [(3, .int (nI (t + 1))), (0, .ref y), (1, .int (nI q)), (2, .int (nI 1))]) dX12_take_57 0 rfl (nIs _) (by decide) rfl ?_
        refine x_pc (pc' := 60) rfl ?_
        refine x_goto (tgt := 27) dX12_take_60 (by decide) ?_
        exact ih (t + 1) _ _ _ (by omega) hN2
theorem Md_take_y1 {K : xG} {h y : Nat} {G0 G : xHp} {hl : xHl} {r : xRw} {sc : Nat × Nat × Int32} {A : Nat → Nat → Int32} {F : Nat → Int32} {wa sa : Nat → Int64} {q : Nat} (hM : MW G0 G y hl r sc A F wa sa) {rv : Option (List Nat)} (hO : HallOk hl) (hV : RvR A sc rv) (hrow : RowOk hl r) (hq : q < hl 0 3) (hf : r (5 + q) = -1) : xCall K mX12_take 12 0 0 [.ref y, .int (nI q), .int (nI 1)] h G (mdX G0 h y (some (.int (tryF rv (candT hl r q) (-1, savG hl rv r) (hl 0 4)).2)) hl r sc (setA A 44 (svI (ovr A hl r sc) 3600 9)) (tF F (tryF rv (candT hl r q) (-1, savG hl rv r) (hl 0 4)))) := by
  refine x_entry (by decide) (ls := [(0, .ref y), (1, .int (nI q)), (2, .int (nI 1))]) rfl (Nat.le_of_ble_eq_true rfl) ?_
  have hB := hM.hB
  obtain ⟨o2, o3, o4, o5, o6, o7, o8, o9⟩ := id hO
  refine x_aload_n dX12_take_0 0 rfl ?_
  refine x_iload_n dX12_take_1 1 rfl ?_
  refine x_cV (N := mX12_isFree) (d' := 2) (mc := 0) (ms := 0) (cb := 0) (sb := 0) (As := [.int (nI q)]) (st := []) dX12_take_2 mX12_isFree_v lX12_431 rfl rfl (hM.1) rfl (by decide) (Nat.le_of_ble_eq_true rfl) (Md_isFree hM o3) rfl (st1 := [.int (bI (inR (nI q) (hl 0 3) && decide (r (5 + thN (nI q)) = -1)))]) rfl ?_
  refine x_ifB_eq (tgt := 18) dX12_take_5 (by decide) (fun c5 => ?_) (fun c5 => ?_)
  · exact absurd c5 (by rw [inR_nI (by omega), thN_nI (by omega), decide_eq_true hq, decide_eq_true hf]; decide)
  · refine x_iload_n dX12_take_8 2 rfl ?_
    refine x_i2l dX12_take_9 ?_
    refine x_lconst (v := 0) dX12_take_10 rfl ?_
    refine x_lconst (v := 1) dX12_take_11 rfl ?_
    refine x_cS (N := mX12_in) (d' := 0) (mc := 0) (ms := 0) (cb := 0) (sb := 0) (As := [.long ((nI 1).toInt64), .long 0, .long 1]) (st := []) dX12_take_12 mX12_in_s lX12_155 rfl (by decide) (Nat.le_of_ble_eq_true rfl) (Md_in) rfl (st1 := [.int (bI (decide (0 ≤ (nI 1).toInt64 ∧ (nI 1).toInt64 ≤ 1)))]) rfl ?_
    refine x_pc (pc' := 15) rfl ?_
    refine x_ifB_ne (tgt := 21) dX12_take_15 (by decide) (fun c15 => ?_) (fun c15 => ?_)
    · refine x_aload_n dX12_take_21 0 rfl ?_
      refine x_cVe (N := mX12_triesNothing) (d' := 11) (mc := 0) (ms := 0) (cb := 0) (sb := 0) (As := []) (st := []) dX12_take_22 mX12_triesNothing_v lX12_465 rfl rfl (hM.1) rfl (by decide) (Nat.le_of_ble_eq_true rfl) (Md_triesNothing hM hO hV hrow) rfl (sf := fun e2 => []) (fun _ => rfl) (fun e2 hq2 => ?_)
      obtain ⟨⟨w2, k2⟩, G2⟩ := e2
      have hN2 : MW G0 G2 y hl r sc (setA A 44 (svI (ovr A hl r sc) 3600 9)) (tF F (-1, savG hl rv r)) w2 k2 := hq2
      refine x_iconst dX12_take_25 ki_0 ?_
      refine x_istore_n (ls' := [(3, .int (nI 0)), (0, .ref y), (1, .int (nI q)), (2, .int (nI 1))]) dX12_take_26 (by decide) rfl ?_
      exact Md_take_loop1 (A := (setA A 44 (svI (ovr A hl r sc) 3600 9))) (Kept_sv (A := A)) hB hO (hV.set (by omega)) hrow hq hf (hl 0 4) 0 w2 k2 G2 (by omega) hN2
    · exact absurd c15 (by decide)
theorem Md_part_loop1 {K : xG} {h y : Nat} {G0 : xHp} {hl : xHl} {r : xRw} {sc : Nat × Nat × Int32} {A : Nat → Nat → Int32} {F : Nat → Int32} {rv : Option (List Nat)} (hk : Kept (A 44) hl r sc) (hb : ∀ i j, hl i j < 1000000) (hO : HallOk hl) (hV : RvR A sc rv) (hrow : RowOk hl r) (hpp : ∀ s, s < hl 0 2 → ∃ p, p ≤ 100 ∧ r (1 + s) = nI p) : ∀ (i t : Nat) (w1 k1 : Nat → Int64) (G1 : xHp), t + i = hl 0 2 → MW G0 G1 y hl r sc A (tF F (tryF rv (fun s => some (hl, partR r s)) (-1, savG hl rv r) t)) w1 k1 → xV K mX12_part 12 0 0 h G1 26 [(2, .int (nI t)), (0, .ref y), (1, .int (nI 1))] [] (mdX G0 h y (some (.int (tryF rv (fun s => some (hl, partR r s)) (-1, savG hl rv r) (hl 0 2)).2)) hl r sc A (tF F (tryF rv (fun s => some (hl, partR r s)) (-1, savG hl rv r) (hl 0 2)))) := by
  obtain ⟨o2, o3, o4, o5, o6, o7, o8, o9⟩ := id hO
  intro i
  induction i with
  | zero =>
    intro t w1 k1 G1 hi hN
    have hi0 : t = hl 0 2 := by omega
    subst hi0
    refine x_iload_n dX12_part_26 0 rfl ?_
    refine x_aload_n dX12_part_27 1 rfl ?_
    refine x_get (v := .ref (y + 1)) dX12_part_28 fX12_9 (hN.1) rfl ?_
    refine x_iconst dX12_part_31 ki_2 ?_
    refine x_ialdN (n := 9) (f := scal hl r sc) dX12_part_32 (hN.c1) (by decide) (by decide) ?_
    refine x_topi (y := nI (hl 0 2)) rfl ?_
    refine x_icmpN_ge (tgt := 57) dX12_part_33 (by decide) (by omega) (by omega) (fun c33 => ?_) (fun c33 => ?_)
    · refine x_iload_n dX12_part_57 2 rfl ?_
      refine x_ifN_ne (tgt := 68) dX12_part_58 (by decide) (by omega) (fun c58 => ?_) (fun c58 => ?_)
      · refine x_aload_n dX12_part_68 1 rfl ?_
        refine x_pc (pc' := 69) rfl ?_
        refine x_get (v := .int ((tryF rv (fun s => some (hl, partR r s)) (-1, savG hl rv r) (hl 0 2)).2)) dX12_part_69 fX12_456 (hN.1) rfl ?_
        exact x_iret dX12_part_72 rfl (xEx_i ((w1, k1), G1) hN rfl rfl rfl)
      · exact absurd c58 (by decide)
    · exact absurd c33 (by omega)
  | succ i ih =>
    intro t w1 k1 G1 hi hN
    have o5t := o5 t
    refine x_iload_n dX12_part_26 0 rfl ?_
    refine x_aload_n dX12_part_27 1 rfl ?_
    refine x_get (v := .ref (y + 1)) dX12_part_28 fX12_9 (hN.1) rfl ?_
    refine x_iconst dX12_part_31 ki_2 ?_
    refine x_ialdN (n := 9) (f := scal hl r sc) dX12_part_32 (hN.c1) (by decide) (by decide) ?_
    refine x_topi (y := nI (hl 0 2)) rfl ?_
    refine x_icmpN_ge (tgt := 57) dX12_part_33 (by decide) (by omega) (by omega) (fun c33 => ?_) (fun c33 => ?_)
    · exact absurd c33 (by omega)
    · refine x_aload_n dX12_part_36 1 rfl ?_
      refine x_get (v := .ref (y + 3)) dX12_part_37 fX12_16 (hN.1) rfl ?_
      refine x_iload_n dX12_part_40 0 rfl ?_
      refine x_pc (pc' := 41) rfl ?_
      refine x_dup2 dX12_part_41 rfl rfl ?_
      refine x_ialdN (n := 4) (f := blk r 1 4) dX12_part_42 (hN.c3) (by omega) (by decide) ?_
      refine x_topi (y := r (1 + t)) (blk_at (by omega)) ?_
      refine x_iconst dX12_part_43 ki_1 ?_
      refine x_iadd dX12_part_44 ?_
      refine x_iastN (n := 4) (f := blk r 1 4) dX12_part_45 (hN.c3) (by omega) (by decide) ?_
      have hM1 := hN.s3 t ((r (1 + t)) + (nI 1)) (by omega)
      refine x_aload_n dX12_part_46 1 rfl ?_
      refine x_iload_n dX12_part_47 0 rfl ?_
      refine x_cVe (N := mX12_tries) (d' := 10) (mc := 0) (ms := 0) (cb := 0) (sb := 0) (As := [.int (nI t)]) (st := []) dX12_part_48 mX12_tries_v lX12_462 rfl rfl (hM1.1) rfl (by decide) (Nat.le_of_ble_eq_true rfl) (Md_tries (F := cF F 1 3650) (b := (tryF rv (fun s => some (hl, partR r s)) (-1, savG hl rv r) t).1) (m := (tryF rv (fun s => some (hl, partR r s)) (-1, savG hl rv r) t).2) hM1 hk hb hO hV (part_ok hO hrow (by omega) hpp)) rfl (sf := fun e2 => []) (fun _ => rfl) (fun e2 hq2 => ?_)
      obtain ⟨⟨w2, k2⟩, G2⟩ := e2
      have hN0 : MW G0 G2 y (lbH hl hl) r sc A (tF (cF F 1 3650) (trS (tryF rv (fun s => some (hl, partR r s)) (-1, savG hl rv r) t) (nI t) (savG hl rv (upd r (1 + t) ((r (1 + t)) + (nI 1)))))) w2 k2 := hq2
      rw [lbH_self, tryF_y (p := (hl, (upd r (1 + t) ((r (1 + t)) + (nI 1))))) (rfl)] at hN0
      have hN2 : MW G0 G2 y hl r sc A (tF F (tryF rv (fun s => some (hl, partR r s)) (-1, savG hl rv r) (t + 1))) w2 k2 := hN0.fc rfl
      refine x_iinc (v := nI (t + 1)) (ls' := [(2, .int (nI (t + 1))), (0, .ref y), (1, .int (nI 1))]) dX12_part_51 0 rfl (nIs _) (by decide) rfl ?_
      refine x_goto (tgt := 26) dX12_part_54 (by decide) ?_
      exact ih (t + 1) _ _ _ (by omega) hN2
theorem Md_part_y1 {K : xG} {h y : Nat} {G0 G : xHp} {hl : xHl} {r : xRw} {sc : Nat × Nat × Int32} {A : Nat → Nat → Int32} {F : Nat → Int32} {wa sa : Nat → Int64} (hM : MW G0 G y hl r sc A F wa sa) {rv : Option (List Nat)} (hO : HallOk hl) (hV : RvR A sc rv) (hrow : RowOk hl r) (h1 : 0 < hl 0 0) (hpp : ∀ s, s < hl 0 2 → ∃ p, p ≤ 100 ∧ r (1 + s) = nI p) : xCall K mX12_part 12 0 0 [.ref y, .int (nI 1)] h G (mdX G0 h y (some (.int (tryF rv (fun s => some (hl, partR r s)) (-1, savG hl rv r) (hl 0 2)).2)) hl r sc (setA A 44 (svI (ovr A hl r sc) 3600 9)) (tF F (tryF rv (fun s => some (hl, partR r s)) (-1, savG hl rv r) (hl 0 2)))) := by
  refine x_entry (by decide) (ls := [(0, .ref y), (1, .int (nI 1))]) rfl (Nat.le_of_ble_eq_true rfl) ?_
  have hB := hM.hB
  obtain ⟨o2, o3, o4, o5, o6, o7, o8, o9⟩ := id hO
  refine x_aload_n dX12_part_0 0 rfl ?_
  refine x_cV (N := mX12_isHall) (d' := 0) (mc := 0) (ms := 0) (cb := 0) (sb := 0) (As := []) (st := []) dX12_part_1 mX12_isHall_v lX12_425 rfl rfl (hM.1) rfl (by decide) (Nat.le_of_ble_eq_true rfl) (Md_isHall hM) rfl (st1 := [.int (bI (decide (0 < hl 0 0)))]) rfl ?_
  refine x_ifB_eq (tgt := 17) dX12_part_4 (by decide) (fun c4 => ?_) (fun c4 => ?_)
  · exact absurd c4 (by rw [decide_eq_true h1]; decide)
  · refine x_iload_n dX12_part_7 1 rfl ?_
    refine x_i2l dX12_part_8 ?_
    refine x_lconst (v := 0) dX12_part_9 rfl ?_
    refine x_lconst (v := 1) dX12_part_10 rfl ?_
    refine x_cS (N := mX12_in) (d' := 0) (mc := 0) (ms := 0) (cb := 0) (sb := 0) (As := [.long ((nI 1).toInt64), .long 0, .long 1]) (st := []) dX12_part_11 mX12_in_s lX12_155 rfl (by decide) (Nat.le_of_ble_eq_true rfl) (Md_in) rfl (st1 := [.int (bI (decide (0 ≤ (nI 1).toInt64 ∧ (nI 1).toInt64 ≤ 1)))]) rfl ?_
    refine x_ifB_ne (tgt := 20) dX12_part_14 (by decide) (fun c14 => ?_) (fun c14 => ?_)
    · refine x_pc (pc' := 20) rfl ?_
      refine x_aload_n dX12_part_20 0 rfl ?_
      refine x_cVe (N := mX12_triesNothing) (d' := 11) (mc := 0) (ms := 0) (cb := 0) (sb := 0) (As := []) (st := []) dX12_part_21 mX12_triesNothing_v lX12_465 rfl rfl (hM.1) rfl (by decide) (Nat.le_of_ble_eq_true rfl) (Md_triesNothing hM hO hV hrow) rfl (sf := fun e2 => []) (fun _ => rfl) (fun e2 hq2 => ?_)
      obtain ⟨⟨w2, k2⟩, G2⟩ := e2
      have hN2 : MW G0 G2 y hl r sc (setA A 44 (svI (ovr A hl r sc) 3600 9)) (tF F (-1, savG hl rv r)) w2 k2 := hq2
      refine x_iconst dX12_part_24 ki_0 ?_
      refine x_istore_n (ls' := [(2, .int (nI 0)), (0, .ref y), (1, .int (nI 1))]) dX12_part_25 (by decide) rfl ?_
      exact Md_part_loop1 (A := (setA A 44 (svI (ovr A hl r sc) 3600 9))) (Kept_sv (A := A)) hB hO (hV.set (by omega)) hrow hpp (hl 0 2) 0 w2 k2 G2 (by omega) hN2
    · exact absurd c14 (by decide)
