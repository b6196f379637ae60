theorem Md_idle_loop {K : xG} {h y : Nat} {G0 : xHp} {hl : xHl} {r : xRw} {sc : Nat × Nat × Int32} {A : Nat → Nat → Int32} {F : Nat → Int32} {R : xRw} {q : Nat} {rv : Option (List Nat)} (hk : Kept (A 44) hl r sc) (hb : ∀ i j, hl i j < 1000000) (hO : HallOk hl) (hV : RvR A sc rv) (hq : q < 4) : ∀ (i : Nat) (rk : xRw) (w1 k1 : Nat → Int64) (G1 : xHp), (∃ n, rk 0 = nI n ∧ n ≤ 1000 ∧ hl 0 0 ≤ n + i) → idleR hl rv i rk = R → RowOk hl rk → MW G0 G1 y hl rk sc A F w1 k1 → xV K mX12_idle 8 0 0 h G1 14 [(0, .ref y), (1, .int (nI q))] [] (mdX G0 h y (some (.int (R (17 + q)))) hl r sc A (cF F 1 3650)) := by
  obtain ⟨o2, o3, o4, o5, o6, o7, o8, o9⟩ := id hO
  intro i
  induction i with
  | zero =>
    intro rk w1 k1 G1 hi hr hok hN
    have hR : R = rk := hr.symm
    subst hR
    obtain ⟨n, hn1, hn2, hn3⟩ := hi
    refine x_aload_n dX12_idle_14 0 rfl ?_
    refine x_get (v := .ref (y + 1)) dX12_idle_15 fX12_9 (hN.1) rfl ?_
    refine x_iconst dX12_idle_18 ki_5 ?_
    refine x_ialdN (n := 9) (f := scal hl R sc) dX12_idle_19 (hN.c1) (by decide) (by decide) ?_
    refine x_topi (y := R 0) rfl ?_
    refine x_aload_n dX12_idle_20 0 rfl ?_
    refine x_get (v := .ref (y + 1)) dX12_idle_21 fX12_9 (hN.1) rfl ?_
    refine x_iconst dX12_idle_24 ki_0 ?_
    refine x_ialdN (n := 9) (f := scal hl R sc) dX12_idle_25 (hN.c1) (by decide) (by decide) ?_
    refine x_topi (y := nI (hl 0 0)) rfl ?_
    refine x_icmp_ge (x := R 0) (y := nI (hl 0 0)) (tgt := 37) dX12_idle_26 (by decide) (fun c26 => ?_) (fun c26 => ?_)
    · refine x_pc (pc' := 37) rfl ?_
      refine x_aload_n dX12_idle_37 0 rfl ?_
      refine x_get (v := .ref (y + 8)) dX12_idle_38 fX12_31 (hN.1) rfl ?_
      refine x_iload_n dX12_idle_41 1 rfl ?_
      refine x_ialdN (n := 4) (f := blk R 17 4) dX12_idle_42 (hN.c8) (by omega) (by decide) ?_
      refine x_topi (y := R (17 + q)) (blk_at (by omega)) ?_
      refine x_istore_n (ls' := [(2, .int (R (17 + q))), (0, .ref y), (1, .int (nI q))]) dX12_idle_43 (by decide) rfl ?_
      refine x_aload_n dX12_idle_44 1 rfl ?_
      refine x_cVe (N := mX12_laysBack) (d' := 2) (mc := 0) (ms := 0) (cb := 0) (sb := 0) (As := []) (st := []) dX12_idle_45 mX12_laysBack_v lX12_450 rfl rfl (hN.1) rfl (by decide) (Nat.le_of_ble_eq_true rfl) (Md_laysBack hN hk hb) rfl (sf := fun G3 => []) (fun _ => rfl) (fun G3 hq3 => ?_)
      have hN3 : MW G0 G3 y hl r sc A (cF F 1 3650) w1 k1 := by have e := hq3; rw [lbH_self] at e; exact e
      refine x_iload_n dX12_idle_48 0 rfl ?_
      exact x_iret dX12_idle_49 rfl (xEx_i ((w1, k1), G3) hN3 rfl rfl rfl)
    · exact absurd (Int32.not_le.mp c26) (idle_e hn1 hn2 hn3 o8)
  | succ i ih =>
    intro rk w1 k1 G1 hi hr hok hN
    obtain ⟨n, hn1, hn2, hn3⟩ := hi
    refine x_aload_n dX12_idle_14 0 rfl ?_
    refine x_get (v := .ref (y + 1)) dX12_idle_15 fX12_9 (hN.1) rfl ?_
    refine x_iconst dX12_idle_18 ki_5 ?_
    refine x_ialdN (n := 9) (f := scal hl rk sc) dX12_idle_19 (hN.c1) (by decide) (by decide) ?_
    refine x_topi (y := rk 0) rfl ?_
    refine x_aload_n dX12_idle_20 0 rfl ?_
    refine x_get (v := .ref (y + 1)) dX12_idle_21 fX12_9 (hN.1) rfl ?_
    refine x_iconst dX12_idle_24 ki_0 ?_
    refine x_ialdN (n := 9) (f := scal hl rk sc) dX12_idle_25 (hN.c1) (by decide) (by decide) ?_
    refine x_topi (y := nI (hl 0 0)) rfl ?_
    refine x_icmp_ge (x := rk 0) (y := nI (hl 0 0)) (tgt := 37) dX12_idle_26 (by decide) (fun c26 => ?_) (fun c26 => ?_)
    · have hR : R = rk := hr.symm.trans (if_neg (Int32.not_lt.mpr c26))
      subst hR
      refine x_pc (pc' := 37) rfl ?_
      refine x_aload_n dX12_idle_37 0 rfl ?_
      refine x_get (v := .ref (y + 8)) dX12_idle_38 fX12_31 (hN.1) rfl ?_
      refine x_iload_n dX12_idle_41 1 rfl ?_
      refine x_ialdN (n := 4) (f := blk R 17 4) dX12_idle_42 (hN.c8) (by omega) (by decide) ?_
      refine x_topi (y := R (17 + q)) (blk_at (by omega)) ?_
      refine x_istore_n (ls' := [(2, .int (R (17 + q))), (0, .ref y), (1, .int (nI q))]) dX12_idle_43 (by decide) rfl ?_
      refine x_aload_n dX12_idle_44 1 rfl ?_
      refine x_cVe (N := mX12_laysBack) (d' := 2) (mc := 0) (ms := 0) (cb := 0) (sb := 0) (As := []) (st := []) dX12_idle_45 mX12_laysBack_v lX12_450 rfl rfl (hN.1) rfl (by decide) (Nat.le_of_ble_eq_true rfl) (Md_laysBack hN hk hb) rfl (sf := fun G3 => []) (fun _ => rfl) (fun G3 hq3 => ?_)
      have hN3 : MW G0 G3 y hl r sc A (cF F 1 3650) w1 k1 := by have e := hq3; rw [lbH_self] at e; exact e
      refine x_iload_n dX12_idle_48 0 rfl ?_
      exact x_iret dX12_idle_49 rfl (xEx_i ((w1, k1), G3) hN3 rfl rfl rfl)
    · refine x_pc (pc' := 29) rfl ?_
      refine x_aload_n dX12_idle_29 0 rfl ?_
      refine x_cVe (N := mX12_goes) (d' := 7) (mc := 0) (ms := 0) (cb := 0) (sb := 0) (As := []) (st := []) dX12_idle_30 mX12_goes_v lX12_404 rfl rfl (hN.1) rfl (by decide) (Nat.le_of_ble_eq_true rfl) (Md_goes hN hO hV hok) rfl (sf := fun e2 => [.int ((goMin hl rv rk).2)]) (fun _ => rfl) (fun e2 hq2 => ?_)
      obtain ⟨⟨w2, k2⟩, G2⟩ := e2
      have hN2 : MW G0 G2 y hl ((goMin hl rv rk).1) sc A F w2 k2 := hq2
      refine x_pop dX12_idle_33 rfl ?_
      refine x_goto (tgt := 14) dX12_idle_34 (by decide) ?_
      exact ih _ _ _ _ (idle_n o3 hn1 hn2 hn3 o8 (Int32.not_le.mp c26)) ((if_pos (Int32.not_le.mp c26)).symm.trans hr) (goMin_ok hO hok) hN2
theorem Md_idle_n {K : xG} {h y : Nat} {G0 G : xHp} {hl : xHl} {r : xRw} {sc : Nat × Nat × Int32} {A : Nat → Nat → Int32} {F : Nat → Int32} {wa sa : Nat → Int64} {v : Int32} (hM : MW G0 G y hl r sc A F wa sa) (hO : HallOk hl) (hn : inR v (hl 0 3) = false) : xCall K mX12_idle 8 0 0 [.ref y, .int v] h G (xRet (some (.int (-1))) h G) := by
  refine x_entry (by decide) (ls := [(0, .ref y), (1, .int v)]) rfl (Nat.le_of_ble_eq_true rfl) ?_
  have hB := hM.hB
  obtain ⟨o2, o3, o4, o5, o6, o7, o8, o9⟩ := id hO
  refine x_aload_n dX12_idle_0 0 rfl ?_
  refine x_iload_n dX12_idle_1 1 rfl ?_
  refine x_cV (N := mX12_isMender) (d' := 1) (mc := 0) (ms := 0) (cb := 0) (sb := 0) (As := [.int v]) (st := []) dX12_idle_2 mX12_isMender_v lX12_364 rfl rfl (hM.1) rfl (by decide) (Nat.le_of_ble_eq_true rfl) (Md_isMender hM) rfl (st1 := [.int (bI (inR v (hl 0 3)))]) rfl ?_
  refine x_ifB_ne (tgt := 10) dX12_idle_5 (by decide) (fun c5 => ?_) (fun c5 => ?_)
  · exact absurd c5 (by rw [hn]; decide)
  · refine x_iconst dX12_idle_8 ki_m1 ?_
    exact x_iret dX12_idle_9 rfl (xRet_i)
theorem Md_idle_y {K : xG} {h y : Nat} {G0 G : xHp} {hl : xHl} {r : xRw} {sc : Nat × Nat × Int32} {A : Nat → Nat → Int32} {F : Nat → Int32} {wa sa : Nat → Int64} {q n : Nat} (hM : MW G0 G y hl r sc A F wa sa) {rv : Option (List Nat)} (hO : HallOk hl) (hV : RvR A sc rv) (hrow : RowOk hl r) (hq : q < hl 0 3) (hn : r 0 = nI n) (hn9 : n ≤ 999) : xCall K mX12_idle 8 0 0 [.ref y, .int (nI q)] h G (mdX G0 h y (some (.int (idleR hl rv 400 r (17 + q)))) hl r sc (setA A 44 (svI (ovr A hl r sc) 3600 9)) (cF (cF F 0 3650) 1 3650)) := by
  refine x_entry (by decide) (ls := [(0, .ref y), (1, .int (nI q))]) rfl (Nat.le_of_ble_eq_true rfl) ?_
  have hB := hM.hB
  obtain ⟨o2, o3, o4, o5, o6, o7, o8, o9⟩ := id hO
  refine x_aload_n dX12_idle_0 0 rfl ?_
  refine x_iload_n dX12_idle_1 1 rfl ?_
  refine x_cV (N := mX12_isMender) (d' := 1) (mc := 0) (ms := 0) (cb := 0) (sb := 0) (As := [.int (nI q)]) (st := []) dX12_idle_2 mX12_isMender_v lX12_364 rfl rfl (hM.1) rfl (by decide) (Nat.le_of_ble_eq_true rfl) (Md_isMender hM) rfl (st1 := [.int (bI (inR (nI q) (hl 0 3)))]) rfl ?_
  refine x_ifB_ne (tgt := 10) dX12_idle_5 (by decide) (fun c5 => ?_) (fun c5 => ?_)
  · refine x_aload_n dX12_idle_10 0 rfl ?_
    refine x_cVe (N := mX12_keepsAll) (d' := 2) (mc := 0) (ms := 0) (cb := 0) (sb := 0) (As := []) (st := []) dX12_idle_11 mX12_keepsAll_v lX12_441 rfl rfl (hM.1) rfl (by decide) (Nat.le_of_ble_eq_true rfl) (Md_keepsAll hM) rfl (sf := fun G1 => []) (fun _ => rfl) (fun G1 hN1 => ?_)
    exact Md_idle_loop (A := (setA A 44 (svI (ovr A hl r sc) 3600 9))) (F := cF F 0 3650) (Kept_sv (A := A)) hB hO (hV.set (by omega)) (by omega) 400 r wa sa G1 ⟨n, hn, by omega, by omega⟩ rfl hrow hN1
  · exact absurd c5 (by rw [inR_nI (by omega), decide_eq_true hq]; decide)
