theorem Md_done_loop {K : xG} {h y : Nat} {G0 : xHp} {hl : xHl} {r : xRw} {sc : Nat × Nat × Int32} {A : Nat → Nat → Int32} {F : Nat → Int32} {R : xRw} {t : Nat} {rv : Option (List Nat)} (hk : Kept (A 44) hl r sc) (hb : ∀ i j, hl i j < 1000000) (hO : HallOk hl) (hV : RvR A sc rv) (ht : t < 7) : ∀ (i k : Nat) (rk : xRw) (w1 k1 : Nat → Int64) (G1 : xHp), k + i = 400 → till hl rv t i rk = R → RowOk hl rk → MW G0 G1 y hl rk sc A F w1 k1 → xV K mX12_done 8 0 0 h G1 16 [(2, .int (nI k)), (0, .ref y), (1, .int (nI t))] [] (mdX G0 h y (some (.int (if R (21 + t) = 3 then R (28 + t) else -2))) hl r sc A (cF F 1 3650)) := by
  obtain ⟨o2, o3, o4, o5, o6, o7, o8, o9⟩ := id hO
  intro i
  induction i with
  | zero =>
    intro k rk w1 k1 G1 hi hr hok hN
    have hi0 : k = 400 := by omega
    subst hi0
    have hR : R = rk := hr.symm
    subst hR
    refine x_iload_n dX12_done_16 0 rfl ?_
    refine x_sipush dX12_done_17 ks_400 ?_
    refine x_icmpN_ge (tgt := 44) dX12_done_20 (by decide) (by omega) (by omega) (fun c20 => ?_) (fun c20 => ?_)
    · refine x_aload_n dX12_done_44 1 rfl ?_
      refine x_get (v := .ref (y + 13)) dX12_done_45 fX12_46 (hN.1) rfl ?_
      refine x_iload_n dX12_done_48 2 rfl ?_
      refine x_ialdN (n := 7) (f := blk R 21 7) dX12_done_49 (hN.c13) (by omega) (by decide) ?_
      refine x_topi (y := R (21 + t)) (blk_at (by omega)) ?_
      refine x_iconst dX12_done_50 ki_3 ?_
      refine x_icmp_ne (x := R (21 + t)) (y := nI 3) (tgt := 63) dX12_done_51 (by decide) (fun c51 => ?_) (fun c51 => ?_)
      · refine x_pc (pc' := 63) rfl ?_
        refine x_bipush dX12_done_63 kb_m2 ?_
        refine x_istore_n (ls' := [(2, .int (-2)), (0, .ref y), (1, .int (nI t))]) dX12_done_65 (by decide) rfl ?_
        refine x_aload_n dX12_done_66 1 rfl ?_
        refine x_cVe (N := mX12_laysBack) (d' := 2) (mc := 0) (ms := 0) (cb := 0) (sb := 0) (As := []) (st := []) dX12_done_67 mX12_laysBack_v lX12_450 rfl rfl (hN.1) rfl (by decide) (Nat.le_of_ble_eq_true rfl) (Md_laysBack hN hk hb) rfl (sf := fun G3 => []) (fun _ => rfl) (fun G3 hq3 => ?_)
        have hN3 : MW G0 G3 y hl r sc A (cF F 1 3650) w1 k1 := by have e := hq3; rw [lbH_self] at e; exact e
        refine x_iload_n dX12_done_70 0 rfl ?_
        exact x_iret dX12_done_71 rfl (xEx_i ((w1, k1), G3) hN3 (by rw [if_neg (show ¬ R (21 + t) = 3 from c51)]) rfl rfl)
      · refine x_pc (pc' := 54) rfl ?_
        refine x_aload_n dX12_done_54 1 rfl ?_
        refine x_get (v := .ref (y + 14)) dX12_done_55 fX12_49 (hN.1) rfl ?_
        refine x_iload_n dX12_done_58 2 rfl ?_
        refine x_ialdN (n := 7) (f := blk R 28 7) dX12_done_59 (hN.c14) (by omega) (by decide) ?_
        refine x_topi (y := R (28 + t)) (blk_at (by omega)) ?_
        refine x_goto (tgt := 65) dX12_done_60 (by decide) ?_
        refine x_istore_n (ls' := [(2, .int (R (28 + t))), (0, .ref y), (1, .int (nI t))]) dX12_done_65 (by decide) rfl ?_
        refine x_aload_n dX12_done_66 1 rfl ?_
        refine x_cVe (N := mX12_laysBack) (d' := 2) (mc := 0) (ms := 0) (cb := 0) (sb := 0) (As := []) (st := []) dX12_done_67 mX12_laysBack_v lX12_450 rfl rfl (hN.1) rfl (by decide) (Nat.le_of_ble_eq_true rfl) (Md_laysBack hN hk hb) rfl (sf := fun G3 => []) (fun _ => rfl) (fun G3 hq3 => ?_)
        have hN3 : MW G0 G3 y hl r sc A (cF F 1 3650) w1 k1 := by have e := hq3; rw [lbH_self] at e; exact e
        refine x_iload_n dX12_done_70 0 rfl ?_
        exact x_iret dX12_done_71 rfl (xEx_i ((w1, k1), G3) hN3 (by rw [if_pos (show R (21 + t) = 3 from c51)]) rfl rfl)
    · exact absurd c20 (by omega)
  | succ i ih =>
    intro k rk w1 k1 G1 hi hr hok hN
    refine x_iload_n dX12_done_16 0 rfl ?_
    refine x_sipush dX12_done_17 ks_400 ?_
    refine x_icmpN_ge (tgt := 44) dX12_done_20 (by decide) (by omega) (by omega) (fun c20 => ?_) (fun c20 => ?_)
    · exact absurd c20 (by omega)
    · refine x_aload_n dX12_done_23 1 rfl ?_
      refine x_get (v := .ref (y + 13)) dX12_done_24 fX12_46 (hN.1) rfl ?_
      refine x_iload_n dX12_done_27 2 rfl ?_
      refine x_ialdN (n := 7) (f := blk rk 21 7) dX12_done_28 (hN.c13) (by omega) (by decide) ?_
      refine x_topi (y := rk (21 + t)) (blk_at (by omega)) ?_
      refine x_iconst dX12_done_29 ki_3 ?_
      refine x_icmp_ge (x := rk (21 + t)) (y := nI 3) (tgt := 44) dX12_done_30 (by decide) (fun c30 => ?_) (fun c30 => ?_)
      · have hR : R = rk := hr.symm.trans (if_neg (Int32.not_lt.mpr c30))
        subst hR
        refine x_pc (pc' := 44) rfl ?_
        refine x_aload_n dX12_done_44 1 rfl ?_
        refine x_get (v := .ref (y + 13)) dX12_done_45 fX12_46 (hN.1) rfl ?_
        refine x_iload_n dX12_done_48 2 rfl ?_
        refine x_ialdN (n := 7) (f := blk R 21 7) dX12_done_49 (hN.c13) (by omega) (by decide) ?_
        refine x_topi (y := R (21 + t)) (blk_at (by omega)) ?_
        refine x_iconst dX12_done_50 ki_3 ?_
        refine x_icmp_ne (x := R (21 + t)) (y := nI 3) (tgt := 63) dX12_done_51 (by decide) (fun c51 => ?_) (fun c51 => ?_)
        · refine x_bipush dX12_done_63 kb_m2 ?_
          refine x_istore_n (ls' := [(2, .int (-2)), (0, .ref y), (1, .int (nI t))]) dX12_done_65 (by decide) rfl ?_
          refine x_aload_n dX12_done_66 1 rfl ?_
          refine x_cVe (N := mX12_laysBack) (d' := 2) (mc := 0) (ms := 0) (cb := 0) (sb := 0) (As := []) (st := []) dX12_done_67 mX12_laysBack_v lX12_450 rfl rfl (hN.1) rfl (by decide) (Nat.le_of_ble_eq_true rfl) (Md_laysBack hN hk hb) rfl (sf := fun G3 => []) (fun _ => rfl) (fun G3 hq3 => ?_)
          have hN3 : MW G0 G3 y hl r sc A (cF F 1 3650) w1 k1 := by have e := hq3; rw [lbH_self] at e; exact e
          refine x_pc (pc' := 70) rfl ?_
          refine x_iload_n dX12_done_70 0 rfl ?_
          exact x_iret dX12_done_71 rfl (xEx_i ((w1, k1), G3) hN3 (by rw [if_neg (show ¬ R (21 + t) = 3 from c51)]) rfl rfl)
        · refine x_aload_n dX12_done_54 1 rfl ?_
          refine x_get (v := .ref (y + 14)) dX12_done_55 fX12_49 (hN.1) rfl ?_
          refine x_iload_n dX12_done_58 2 rfl ?_
          refine x_ialdN (n := 7) (f := blk R 28 7) dX12_done_59 (hN.c14) (by omega) (by decide) ?_
          refine x_topi (y := R (28 + t)) (blk_at (by omega)) ?_
          refine x_pc (pc' := 60) rfl ?_
          refine x_goto (tgt := 65) dX12_done_60 (by decide) ?_
          refine x_istore_n (ls' := [(2, .int (R (28 + t))), (0, .ref y), (1, .int (nI t))]) dX12_done_65 (by decide) rfl ?_
          refine x_aload_n dX12_done_66 1 rfl ?_
          refine x_cVe (N := mX12_laysBack) (d' := 2) (mc := 0) (ms := 0) (cb := 0) (sb := 0) (As := []) (st := []) dX12_done_67 mX12_laysBack_v lX12_450 rfl rfl (hN.1) rfl (by decide) (Nat.le_of_ble_eq_true rfl) (Md_laysBack hN hk hb) rfl (sf := fun G3 => []) (fun _ => rfl) (fun G3 hq3 => ?_)
          have hN3 : MW G0 G3 y hl r sc A (cF F 1 3650) w1 k1 := by have e := hq3; rw [lbH_self] at e; exact e
          refine x_iload_n dX12_done_70 0 rfl ?_
          exact x_iret dX12_done_71 rfl (xEx_i ((w1, k1), G3) hN3 (by rw [if_pos (show R (21 + t) = 3 from c51)]) rfl rfl)
      · refine x_pc (pc' := 33) rfl ?_
        refine x_aload_n dX12_done_33 1 rfl ?_
        refine x_cVe (N := mX12_goes) (d' := 7) (mc := 0) (ms := 0) (cb := 0) (sb := 0) (As := []) (st := []) dX12_done_34 mX12_goes_v lX12_404 rfl rfl (hN.1) rfl (by decide) (Nat.le_of_ble_eq_true rfl) (Md_goes hN hO hV hok) rfl (sf := fun e2 => [.int ((goMin hl rv rk).2)]) (fun _ => rfl) (fun e2 hq2 => ?_)
        obtain ⟨⟨w2, k2⟩, G2⟩ := e2
        have hN2 : MW G0 G2 y hl ((goMin hl rv rk).1) sc A F w2 k2 := hq2
        refine x_pop dX12_done_37 rfl ?_
        refine x_iinc (v := nI (k + 1)) (ls' := [(2, .int (nI (k + 1))), (0, .ref y), (1, .int (nI t))]) dX12_done_38 0 rfl (nIs _) (by decide) rfl ?_
        refine x_goto (tgt := 16) dX12_done_41 (by decide) ?_
        exact ih (k + 1) _ _ _ _ (by omega) ((if_pos (Int32.not_le.mp c30)).symm.trans hr) (goMin_ok hO hok) hN2
theorem Md_done_n {K : xG} {h y : Nat} {G0 G : xHp} {hl : xHl} {r : xRw} {sc : Nat × Nat × Int32} {A : Nat → Nat → Int32} {F : Nat → Int32} {wa sa : Nat → Int64} {v : Int32} (hM : MW G0 G y hl r sc A F wa sa) (hO : HallOk hl) (hn : inR v (hl 0 4) = false) : xCall K mX12_done 8 0 0 [.ref y, .int v] h G (xRet (some (.int (-1))) h G) := by
  refine x_entry (by decide) (ls := [(0, .ref y), (1, .int v)]) rfl (Nat.le_of_ble_eq_true rfl) ?_
  have hB := hM.hB
  obtain ⟨o2, o3, o4, o5, o6, o7, o8, o9⟩ := id hO
  refine x_aload_n dX12_done_0 0 rfl ?_
  refine x_iload_n dX12_done_1 1 rfl ?_
  refine x_cV (N := mX12_isThing) (d' := 1) (mc := 0) (ms := 0) (cb := 0) (sb := 0) (As := [.int v]) (st := []) dX12_done_2 mX12_isThing_v lX12_360 rfl rfl (hM.1) rfl (by decide) (Nat.le_of_ble_eq_true rfl) (Md_isThing hM) rfl (st1 := [.int (bI (inR v (hl 0 4)))]) rfl ?_
  refine x_ifB_ne (tgt := 10) dX12_done_5 (by decide) (fun c5 => ?_) (fun c5 => ?_)
  · exact absurd c5 (by rw [hn]; decide)
  · refine x_iconst dX12_done_8 ki_m1 ?_
    exact x_iret dX12_done_9 rfl (xRet_i)
theorem Md_done_y {K : xG} {h y : Nat} {G0 G : xHp} {hl : xHl} {r : xRw} {sc : Nat × Nat × Int32} {A : Nat → Nat → Int32} {F : Nat → Int32} {wa sa : Nat → Int64} {t : Nat} (hM : MW G0 G y hl r sc A F wa sa) {rv : Option (List Nat)} (hO : HallOk hl) (hV : RvR A sc rv) (hrow : RowOk hl r) (ht : t < hl 0 4) : xCall K mX12_done 8 0 0 [.ref y, .int (nI t)] h G (mdX G0 h y (some (.int (doneS hl rv r t))) hl r sc (setA A 44 (svI (ovr A hl r sc) 3600 9)) (cF (cF F 0 3650) 1 3650)) := by
  refine x_entry (by decide) (ls := [(0, .ref y), (1, .int (nI t))]) rfl (Nat.le_of_ble_eq_true rfl) ?_
  have hB := hM.hB
  obtain ⟨o2, o3, o4, o5, o6, o7, o8, o9⟩ := id hO
  refine x_aload_n dX12_done_0 0 rfl ?_
  refine x_iload_n dX12_done_1 1 rfl ?_
  refine x_cV (N := mX12_isThing) (d' := 1) (mc := 0) (ms := 0) (cb := 0) (sb := 0) (As := [.int (nI t)]) (st := []) dX12_done_2 mX12_isThing_v lX12_360 rfl rfl (hM.1) rfl (by decide) (Nat.le_of_ble_eq_true rfl) (Md_isThing hM) rfl (st1 := [.int (bI (inR (nI t) (hl 0 4)))]) rfl ?_
  refine x_ifB_ne (tgt := 10) dX12_done_5 (by decide) (fun c5 => ?_) (fun c5 => ?_)
  · refine x_aload_n dX12_done_10 0 rfl ?_
    refine x_cVe (N := mX12_keepsAll) (d' := 2) (mc := 0) (ms := 0) (cb := 0) (sb := 0) (As := []) (st := []) dX12_done_11 mX12_keepsAll_v lX12_441 rfl rfl (hM.1) rfl (by decide) (Nat.le_of_ble_eq_true rfl) (Md_keepsAll hM) rfl (sf := fun G1 => []) (fun _ => rfl) (fun G1 hN1 => ?_)
    refine x_iconst dX12_done_14 ki_0 ?_
    refine x_istore_n (ls' := [(2, .int (nI 0)), (0, .ref y), (1, .int (nI t))]) dX12_done_15 (by decide) rfl ?_
    exact Md_done_loop (A := (setA A 44 (svI (ovr A hl r sc) 3600 9))) (F := cF F 0 3650) (Kept_sv (A := A)) hB hO (hV.set (by omega)) (by omega) 400 0 r wa sa G1 (by decide) rfl hrow hN1
  · exact absurd c5 (by rw [inR_nI (by omega), decide_eq_true ht]; decide)
