theorem Md_waits_n {K : xG} {h y : Nat} {G0 G : xHp} {hl : xHl} {r : xRw} {sc : Nat × Nat × Int32} {A : Nat → Nat → Int32} {F : Nat → Int32} {wa sa : Nat → Int64} {v : Int32} (hM : MW G0 G y hl r sc A F wa sa) (hO : HallOk hl) (hn : ¬ (inR v (hl 0 4) = true ∧ r (21 + thN v) ≤ nI 1)) : xCall K mX12_waits 8 0 0 [.ref y, .int v] h G (xRet (some (.int (-1))) h G) := by
  refine x_entry (by decide) (ls := [(0, .ref y), (1, .int v)]) rfl (Nat.le_of_ble_eq_true rfl) ?_
  have hB := hM.hB
  obtain ⟨o2, o3, o4, o5, o6, o7, o8, o9⟩ := id hO
  refine x_aload_n dX12_waits_0 0 rfl ?_
  refine x_iload_n dX12_waits_1 1 rfl ?_
  refine x_cV (N := mX12_isThing) (d' := 1) (mc := 0) (ms := 0) (cb := 0) (sb := 0) (As := [.int v]) (st := []) dX12_waits_2 mX12_isThing_v lX12_360 rfl rfl (hM.1) rfl (by decide) (Nat.le_of_ble_eq_true rfl) (Md_isThing hM) rfl (st1 := [.int (bI (inR v (hl 0 4)))]) rfl ?_
  refine x_ifB_eq (tgt := 18) dX12_waits_5 (by decide) (fun c5 => ?_) (fun c5 => ?_)
  · refine x_iconst dX12_waits_18 ki_m1 ?_
    exact x_iret dX12_waits_19 rfl (xRet_i)
  · obtain ⟨g1, g2⟩ := inR_th c5
    refine x_leq (ls' := [(0, .ref y), (1, .int (nI (thN v)))]) (by rw [← g2]) ?_
    refine x_aload_n dX12_waits_8 0 rfl ?_
    refine x_get (v := .ref (y + 13)) dX12_waits_9 fX12_46 (hM.1) rfl ?_
    refine x_iload_n dX12_waits_12 1 rfl ?_
    refine x_ialdN (n := 7) (f := blk r 21 7) dX12_waits_13 (hM.c13) (by omega) (by decide) ?_
    refine x_topi (y := r (21 + (thN v))) (blk_at (by omega)) ?_
    refine x_iconst dX12_waits_14 ki_1 ?_
    refine x_pc (pc' := 15) rfl ?_
    refine x_icmp_le (x := r (21 + (thN v))) (y := nI 1) (tgt := 20) dX12_waits_15 (by decide) (fun c15 => ?_) (fun c15 => ?_)
    · exact absurd ⟨c5, c15⟩ hn
    · refine x_iconst dX12_waits_18 ki_m1 ?_
      exact x_iret dX12_waits_19 rfl (xRet_i)
theorem Md_waits_loop {K : xG} {h y : Nat} {G0 : xHp} {hl : xHl} {r : xRw} {sc : Nat × Nat × Int32} {A : Nat → Nat → Int32} {F : Nat → Int32} {R : Int32} {t : Nat} {rv : Option (List Nat)} (hk : Kept (A 44) hl r sc) (hb : ∀ i j, hl i j < 1000000) (hO : HallOk hl) (hV : RvR A sc rv) (ht : t < hl 0 4) : ∀ (i k : Nat) (rk : xRw) (w1 k1 : Nat → Int64) (G1 : xHp), k + i = 400 → wtF hl rv t i rk = R → RowOk hl rk → (∃ m, m ≤ 2000 + k ∧ RowC hl rk m) → MW G0 G1 y hl rk sc A F w1 k1 → xV K mX12_waits 8 0 0 h G1 29 [(3, .int (nI k)), (2, .int (-2)), (0, .ref y), (1, .int (nI t))] [] (mdX G0 h y (some (.int R)) hl r sc A (cF F 1 3650)) := by
  obtain ⟨o2, o3, o4, o5, o6, o7, o8, o9⟩ := id hO
  intro i
  induction i with
  | zero =>
    intro k rk w1 k1 G1 hi hr hok hm hN
    have hi0 : k = 400 := by omega
    subst hi0
    have hR : R = -2 := hr.symm
    subst hR
    refine x_iload_n dX12_waits_29 0 rfl ?_
    refine x_sipush dX12_waits_30 ks_400 ?_
    refine x_icmpN_ge (tgt := 86) dX12_waits_33 (by decide) (by omega) (by omega) (fun c33 => ?_) (fun c33 => ?_)
    · refine x_aload_n dX12_waits_86 2 rfl ?_
      refine x_cVe (N := mX12_laysBack) (d' := 2) (mc := 0) (ms := 0) (cb := 0) (sb := 0) (As := []) (st := []) dX12_waits_87 mX12_laysBack_v lX12_450 rfl rfl (hN.1) rfl (by decide) (Nat.le_of_ble_eq_true rfl) (Md_laysBack hN hk hb) rfl (sf := fun G3 => []) (fun _ => rfl) (fun G3 hq3 => ?_)
      have hN3 : MW G0 G3 y hl r sc A (cF F 1 3650) w1 k1 := by have e := hq3; rw [lbH_self] at e; exact e
      refine x_iload_n dX12_waits_90 1 rfl ?_
      exact x_iret dX12_waits_91 rfl (xEx_i ((w1, k1), G3) hN3 rfl rfl rfl)
    · exact absurd c33 (by omega)
  | succ i ih =>
    intro k rk w1 k1 G1 hi hr hok hm hN
    obtain ⟨mi, hm1, hm2⟩ := hm
    refine x_iload_n dX12_waits_29 0 rfl ?_
    refine x_sipush dX12_waits_30 ks_400 ?_
    refine x_icmpN_ge (tgt := 86) dX12_waits_33 (by decide) (by omega) (by omega) (fun c33 => ?_) (fun c33 => ?_)
    · exact absurd c33 (by omega)
    · refine x_iload_n dX12_waits_36 1 rfl ?_
      refine x_bipush dX12_waits_37 kb_m2 ?_
      refine x_icmp_ne (x := (-2)) (y := (-2)) (tgt := 86) dX12_waits_39 (by decide) (fun c39 => ?_) (fun c39 => ?_)
      · exact absurd rfl c39
      · refine x_aload_n dX12_waits_42 2 rfl ?_
        refine x_get (v := .ref (y + 1)) dX12_waits_43 fX12_9 (hN.1) rfl ?_
        refine x_iconst dX12_waits_46 ki_5 ?_
        refine x_pc (pc' := 47) rfl ?_
        refine x_ialdN (n := 9) (f := scal hl rk sc) dX12_waits_47 (hN.c1) (by decide) (by decide) ?_
        refine x_topi (y := rk 0) rfl ?_
        refine x_istore (ls' := [(4, .int (rk 0)), (3, .int (nI k)), (2, .int (-2)), (0, .ref y), (1, .int (nI t))]) dX12_waits_48 (by decide) rfl ?_
        refine x_aload_n dX12_waits_50 3 rfl ?_
        refine x_cVe (N := mX12_goes) (d' := 7) (mc := 0) (ms := 0) (cb := 0) (sb := 0) (As := []) (st := []) dX12_waits_51 mX12_goes_v lX12_404 rfl rfl (hN.1) rfl (by decide) (Nat.le_of_ble_eq_true rfl) (Md_goes hN hO hV hok) rfl (sf := fun e2 => [.int ((goMin hl rv rk).2)]) (fun _ => rfl) (fun e2 hq2 => ?_)
        obtain ⟨⟨w2, k2⟩, G2⟩ := e2
        have hN2 : MW G0 G2 y hl ((goMin hl rv rk).1) sc A F w2 k2 := hq2
        refine x_pop dX12_waits_54 rfl ?_
        refine x_aload_n dX12_waits_55 3 rfl ?_
        refine x_get (v := .ref (y + 13)) dX12_waits_56 fX12_46 (hN2.1) rfl ?_
        refine x_iload_n dX12_waits_59 4 rfl ?_
        refine x_ialdN (n := 7) (f := blk ((goMin hl rv rk).1) 21 7) dX12_waits_60 (hN2.c13) (by omega) (by decide) ?_
        refine x_topi (y := ((goMin hl rv rk).1) (21 + t)) (blk_at (by omega)) ?_
        refine x_iconst dX12_waits_61 ki_1 ?_
        refine x_pc (pc' := 62) rfl ?_
        refine x_icmp_le (x := ((goMin hl rv rk).1) (21 + t)) (y := nI 1) (tgt := 77) dX12_waits_62 (by decide) (fun c62 => ?_) (fun c62 => ?_)
        · refine x_bipush dX12_waits_77 kb_m2 ?_
          refine x_istore_n (ls' := [(2, .int (-2)), (4, .int (rk 0)), (3, .int (nI k)), (0, .ref y), (1, .int (nI t))]) dX12_waits_79 (by decide) rfl ?_
          refine x_iinc (v := nI (k + 1)) (ls' := [(3, .int (nI (k + 1))), (2, .int (-2)), (4, .int (rk 0)), (0, .ref y), (1, .int (nI t))]) dX12_waits_80 2 rfl (nIs _) (by decide) rfl ?_
          refine x_goto (tgt := 29) dX12_waits_83 (by decide) ?_
          refine x_perm (ls' := [(3, .int (nI (k + 1))), (2, .int (-2)), (0, .ref y), (1, .int (nI t))]) [0, 1, 3, 4] rfl ?_
          have hng : ¬ nI 1 < (goMin hl rv rk).1 (21 + t) := Int32.not_lt.mpr c62
          exact ih (k + 1) _ _ _ _ (by omega) ((if_neg hng).symm.trans hr) (goMin_ok hO hok) ⟨mi + 1, by omega, hm2.go hO hok (by omega)⟩ hN2
        · have hgt : nI 1 < (goMin hl rv rk).1 (21 + t) := Int32.not_le.mp c62
          have hcm := go_c (rv := rv) hO hok hm2 (by omega) ht (fun q0 => by rw [q0] at hgt; exact absurd hgt (by decide))
          have hwt : ¬ rk 0 - nI (hl 5 t) = -2 := by rw [hm2.1]; exact wt_v hcm (by omega)
          have hR : R = rk 0 - nI (hl 5 t) := by rw [← hr]; show (if nI 1 < (goMin hl rv rk).1 (21 + t) then _ else _) = _; rw [if_pos hgt, go_0 o3, wt_e]
          refine x_iload dX12_waits_65 0 rfl ?_
          refine x_aload_n dX12_waits_67 3 rfl ?_
          refine x_get (v := .ref (y + 10)) dX12_waits_68 fX12_37 (hN2.1) rfl ?_
          refine x_iload_n dX12_waits_71 4 rfl ?_
          refine x_ialdN (n := 7) (f := nF (hl 5)) dX12_waits_72 (hN2.c10) (by omega) (by decide) ?_
          refine x_isub dX12_waits_73 ?_
          refine x_goto (tgt := 79) dX12_waits_74 (by decide) ?_
          refine x_istore_n (ls' := [(2, .int ((rk 0) - (nI (hl 5 t)))), (4, .int (rk 0)), (3, .int (nI k)), (0, .ref y), (1, .int (nI t))]) dX12_waits_79 (by decide) rfl ?_
          refine x_iinc (v := nI (k + 1)) (ls' := [(3, .int (nI (k + 1))), (2, .int ((rk 0) - (nI (hl 5 t)))), (4, .int (rk 0)), (0, .ref y), (1, .int (nI t))]) dX12_waits_80 2 rfl (nIs _) (by decide) rfl ?_
          refine x_pc (pc' := 83) rfl ?_
          refine x_goto (tgt := 29) dX12_waits_83 (by decide) ?_
          refine x_iload_n dX12_waits_29 0 rfl ?_
          refine x_sipush dX12_waits_30 ks_400 ?_
          refine x_icmpN_ge (tgt := 86) dX12_waits_33 (by decide) (by omega) (by omega) (fun c33 => ?_) (fun c33 => ?_)
          · refine x_aload_n dX12_waits_86 3 rfl ?_
            refine x_cVe (N := mX12_laysBack) (d' := 2) (mc := 0) (ms := 0) (cb := 0) (sb := 0) (As := []) (st := []) dX12_waits_87 mX12_laysBack_v lX12_450 rfl rfl (hN2.1) rfl (by decide) (Nat.le_of_ble_eq_true rfl) (Md_laysBack hN2 hk hb) rfl (sf := fun G3 => []) (fun _ => rfl) (fun G3 hq3 => ?_)
            have hN3 : MW G0 G3 y hl r sc A (cF F 1 3650) w2 k2 := by have e := hq3; rw [lbH_self] at e; exact e
            refine x_iload_n dX12_waits_90 1 rfl ?_
            exact x_iret dX12_waits_91 rfl (xEx_i ((w2, k2), G3) hN3 (by rw [hR]) rfl rfl)
          · refine x_iload_n dX12_waits_36 1 rfl ?_
            refine x_bipush dX12_waits_37 kb_m2 ?_
            refine x_icmp_ne (x := (rk 0) - (nI (hl 5 t))) (y := (-2)) (tgt := 86) dX12_waits_39 (by decide) (fun c39 => ?_) (fun c39 => ?_)
            · refine x_aload_n dX12_waits_86 3 rfl ?_
              refine x_cVe (N := mX12_laysBack) (d' := 2) (mc := 0) (ms := 0) (cb := 0) (sb := 0) (As := []) (st := []) dX12_waits_87 mX12_laysBack_v lX12_450 rfl rfl (hN2.1) rfl (by decide) (Nat.le_of_ble_eq_true rfl) (Md_laysBack hN2 hk hb) rfl (sf := fun G3 => []) (fun _ => rfl) (fun G3 hq3 => ?_)
              have hN3 : MW G0 G3 y hl r sc A (cF F 1 3650) w2 k2 := by have e := hq3; rw [lbH_self] at e; exact e
              refine x_iload_n dX12_waits_90 1 rfl ?_
              refine x_pc (pc' := 91) rfl ?_
              exact x_iret dX12_waits_91 rfl (xEx_i ((w2, k2), G3) hN3 (by rw [hR]) rfl rfl)
            · exact absurd c39 hwt
theorem Md_waits_y {K : xG} {h y : Nat} {G0 G : xHp} {hl : xHl} {r : xRw} {sc : Nat × Nat × Int32} {A : Nat → Nat → Int32} {F : Nat → Int32} {wa sa : Nat → Int64} {t mi : Nat} (hM : MW G0 G y hl r sc A F wa sa) {rv : Option (List Nat)} (hO : HallOk hl) (hV : RvR A sc rv) (hrow : RowOk hl r) (ht : t < hl 0 4) (hle : r (21 + t) ≤ nI 1) (hmi : mi ≤ 2000) (hrc : RowC hl r mi) : xCall K mX12_waits 8 0 0 [.ref y, .int (nI t)] h G (mdK G0 h y (some (.int (wtF hl rv t 400 r))) hl r sc A F) := by
  refine x_entry (by decide) (ls := [(0, .ref y), (1, .int (nI t))]) rfl (Nat.le_of_ble_eq_true rfl) ?_
  have hB := hM.hB
  obtain ⟨o2, o3, o4, o5, o6, o7, o8, o9⟩ := id hO
  refine x_aload_n dX12_waits_0 0 rfl ?_
  refine x_iload_n dX12_waits_1 1 rfl ?_
  refine x_cV (N := mX12_isThing) (d' := 1) (mc := 0) (ms := 0) (cb := 0) (sb := 0) (As := [.int (nI t)]) (st := []) dX12_waits_2 mX12_isThing_v lX12_360 rfl rfl (hM.1) rfl (by decide) (Nat.le_of_ble_eq_true rfl) (Md_isThing hM) rfl (st1 := [.int (bI (inR (nI t) (hl 0 4)))]) rfl ?_
  refine x_ifB_eq (tgt := 18) dX12_waits_5 (by decide) (fun c5 => ?_) (fun c5 => ?_)
  · exact absurd c5 (by rw [inR_nI (by omega), decide_eq_true ht]; decide)
  · refine x_aload_n dX12_waits_8 0 rfl ?_
    refine x_get (v := .ref (y + 13)) dX12_waits_9 fX12_46 (hM.1) rfl ?_
    refine x_iload_n dX12_waits_12 1 rfl ?_
    refine x_ialdN (n := 7) (f := blk r 21 7) dX12_waits_13 (hM.c13) (by omega) (by decide) ?_
    refine x_topi (y := r (21 + t)) (blk_at (by omega)) ?_
    refine x_iconst dX12_waits_14 ki_1 ?_
    refine x_pc (pc' := 15) rfl ?_
    refine x_icmp_le (x := r (21 + t)) (y := nI 1) (tgt := 20) dX12_waits_15 (by decide) (fun c15 => ?_) (fun c15 => ?_)
    · refine x_aload_n dX12_waits_20 0 rfl ?_
      refine x_cVe (N := mX12_keepsAll) (d' := 2) (mc := 0) (ms := 0) (cb := 0) (sb := 0) (As := []) (st := []) dX12_waits_21 mX12_keepsAll_v lX12_441 rfl rfl (hM.1) rfl (by decide) (Nat.le_of_ble_eq_true rfl) (Md_keepsAll hM) rfl (sf := fun G1 => []) (fun _ => rfl) (fun G1 hN1 => ?_)
      refine x_bipush dX12_waits_24 kb_m2 ?_
      refine x_istore_n (ls' := [(2, .int (-2)), (0, .ref y), (1, .int (nI t))]) dX12_waits_26 (by decide) rfl ?_
      refine x_iconst dX12_waits_27 ki_0 ?_
      refine x_istore_n (ls' := [(3, .int (nI 0)), (2, .int (-2)), (0, .ref y), (1, .int (nI t))]) dX12_waits_28 (by decide) rfl ?_
      refine x_post (fun v h2 G9 hq => ?_) (Md_waits_loop (A := (setA A 44 (svI (ovr A hl r sc) 3600 9))) (F := cF F 0 3650) (Kept_sv (A := A)) hB hO (hV.set (by omega)) ht 400 0 r wa sa G1 (by decide) rfl hrow ⟨mi, by omega, hrc⟩ hN1)
      obtain ⟨⟨⟨w9, k9⟩, G8⟩, hq1, hq2, hq3, hq4⟩ := hq
      exact ⟨((hl, (setA A 44 (svI (ovr A hl r sc) 3600 9)), cF (cF F 0 3650) 1 3650), (w9, k9), G8), ⟨hq1, LX.rf hB, AS.kp, ⟨rfl, rfl, rfl, rfl⟩⟩, hq2, hq3, hq4⟩
    · exact absurd hle c15
theorem Md_askIn_n {K : xG} {h y : Nat} {G0 G : xHp} {hl : xHl} {r : xRw} {sc : Nat × Nat × Int32} {A : Nat → Nat → Int32} {F : Nat → Int32} {wa sa : Nat → Int64} {w : Int32} (hM : MW G0 G y hl r sc A F wa sa) (hO : HallOk hl) (hn : ¬ (0 < hl 0 0 ∧ inR w 2 = true)) : xCall K mX12_askIn 12 0 0 [.ref y, .int w] h G (xRet (some (.int (-2))) h G) := by
  refine x_entry (by decide) (ls := [(0, .ref y), (1, .int w)]) rfl (Nat.le_of_ble_eq_true rfl) ?_
  have hB := hM.hB
  obtain ⟨o2, o3, o4, o5, o6, o7, o8, o9⟩ := id hO
  refine x_aload_n dX12_askIn_0 0 rfl ?_
  refine x_cV (N := mX12_isHall) (d' := 0) (mc := 0) (ms := 0) (cb := 0) (sb := 0) (As := []) (st := []) dX12_askIn_1 mX12_isHall_v lX12_425 rfl rfl (hM.1) rfl (by decide) (Nat.le_of_ble_eq_true rfl) (Md_isHall hM) rfl (st1 := [.int (bI (decide (0 < hl 0 0)))]) rfl ?_
  refine x_ifB_eq (tgt := 17) dX12_askIn_4 (by decide) (fun c4 => ?_) (fun c4 => ?_)
  · refine x_bipush dX12_askIn_17 kb_m2 ?_
    exact x_iret dX12_askIn_19 rfl (xRet_i)
  · refine x_iload_n dX12_askIn_7 1 rfl ?_
    refine x_i2l dX12_askIn_8 ?_
    refine x_lconst (v := 0) dX12_askIn_9 rfl ?_
    refine x_lconst (v := 1) dX12_askIn_10 rfl ?_
    refine x_cS (N := mX12_in) (d' := 0) (mc := 0) (ms := 0) (cb := 0) (sb := 0) (As := [.long w.toInt64, .long 0, .long 1]) (st := []) dX12_askIn_11 mX12_in_s lX12_155 rfl (by decide) (Nat.le_of_ble_eq_true rfl) (Md_in) rfl (st1 := [.int (bI (decide (0 ≤ w.toInt64 ∧ w.toInt64 ≤ 1)))]) rfl ?_
    refine x_ifB_ne (tgt := 20) dX12_askIn_14 (by decide) (fun c14 => ?_) (fun c14 => ?_)
    · exact absurd ⟨of_decide_eq_true c4, (in_01 w).symm.trans c14⟩ hn
    · refine x_pc (pc' := 17) rfl ?_
      refine x_bipush dX12_askIn_17 kb_m2 ?_
      exact x_iret dX12_askIn_19 rfl (xRet_i)
theorem Md_askIn_loop0 {K : xG} {h y : Nat} {G0 : xHp} {hl : xHl} {r : xRw} {sc : Nat × Nat × Int32} {A : Nat → Nat → Int32} {F : Nat → Int32} {rv : Option (List Nat)} (hk : Kept (A 44) hl r sc) (hb : ∀ i j, hl i j < 1000000) (hO : HallOk hl) (hV : RvR A sc rv) (hrow : RowOk hl r) (hgm : r (5 + hl 0 3) = -1) (hgc : r (13 + hl 0 3) = 0) (hgs : ∀ s, s < 4 → hl 3 (hl 0 3 * 4 + s) = 0) (hg4 : hl 0 3 < 4) : ∀ (i t : Nat) (w1 k1 : Nat → Int64) (G1 : xHp), t + i = hl 0 2 → MW G0 G1 y hl r sc A (tF F (tryF rv (candG hl r) (-1, savG hl rv r) t)) w1 k1 → xV K mX12_askIn 12 0 0 h G1 33 [(3, .int (nI t)), (2, .int (nI (hl 0 3))), (0, .ref y), (1, .int (nI 0))] [] (mdX G0 h y (some (.int (tryF rv (candG hl r) (-1, savG hl rv r) (hl 0 2)).1)) hl r sc A (tF F (tryF rv (candG hl r) (-1, savG hl rv r) (hl 0 2)))) := by
  obtain ⟨o2, o3, o4, o5, o6, o7, o8, o9⟩ := id hO
  intro i
  induction i with
  | zero =>
    intro t w1 k1 G1 hi hN
    have hi0 : t = hl 0 2 := by omega
    subst hi0
    refine x_iload_n dX12_askIn_33 0 rfl ?_
    refine x_aload_n dX12_askIn_34 2 rfl ?_
    refine x_get (v := .ref (y + 1)) dX12_askIn_35 fX12_9 (hN.1) rfl ?_
    refine x_iconst dX12_askIn_38 ki_2 ?_
    refine x_ialdN (n := 9) (f := scal hl r sc) dX12_askIn_39 (hN.c1) (by decide) (by decide) ?_
    refine x_topi (y := nI (hl 0 2)) rfl ?_
    refine x_icmpN_ge (tgt := 106) dX12_askIn_40 (by decide) (by omega) (by omega) (fun c40 => ?_) (fun c40 => ?_)
    · refine x_iload_n dX12_askIn_106 3 rfl ?_
      refine x_ifN_ne (tgt := 117) dX12_askIn_107 (by decide) (by omega) (fun c107 => ?_) (fun c107 => ?_)
      · exact absurd c107 (by decide)
      · refine x_aload_n dX12_askIn_110 2 rfl ?_
        refine x_pc (pc' := 111) rfl ?_
        refine x_get (v := .int ((tryF rv (candG hl r) (-1, savG hl rv r) (hl 0 2)).1)) dX12_askIn_111 fX12_459 (hN.1) rfl ?_
        refine x_goto (tgt := 121) dX12_askIn_114 (by decide) ?_
        exact x_iret dX12_askIn_121 rfl (xEx_i ((w1, k1), G1) hN rfl rfl rfl)
    · exact absurd c40 (by omega)
  | succ i ih =>
    intro t w1 k1 G1 hi hN
    refine x_iload_n dX12_askIn_33 0 rfl ?_
    refine x_aload_n dX12_askIn_34 2 rfl ?_
    refine x_get (v := .ref (y + 1)) dX12_askIn_35 fX12_9 (hN.1) rfl ?_
    refine x_iconst dX12_askIn_38 ki_2 ?_
    refine x_ialdN (n := 9) (f := scal hl r sc) dX12_askIn_39 (hN.c1) (by decide) (by decide) ?_
    refine x_topi (y := nI (hl 0 2)) rfl ?_
    refine x_icmpN_ge (tgt := 106) dX12_askIn_40 (by decide) (by omega) (by omega) (fun c40 => ?_) (fun c40 => ?_)
    · exact absurd c40 (by omega)
    · refine x_iload_n dX12_askIn_43 1 rfl ?_
      refine x_iconst dX12_askIn_44 ki_4 ?_
      refine x_icmpN_ge (tgt := 106) dX12_askIn_45 (by decide) (by omega) (by omega) (fun c45 => ?_) (fun c45 => ?_)
      · exact absurd c45 (by omega)
      · refine x_pc (pc' := 48) rfl ?_
        refine x_aload_n dX12_askIn_48 2 rfl ?_
        refine x_get (v := .ref (y + 1)) dX12_askIn_49 fX12_9 (hN.1) rfl ?_
        refine x_iconst dX12_askIn_52 ki_3 ?_
        refine x_dup2 dX12_askIn_53 rfl rfl ?_
        refine x_ialdN (n := 9) (f := scal hl r sc) dX12_askIn_54 (hN.c1) (by decide) (by decide) ?_
        refine x_topi (y := nI (hl 0 3)) rfl ?_
        refine x_iconst dX12_askIn_55 ki_1 ?_
        refine x_iaddN dX12_askIn_56 ?_
        refine x_iastN (n := 9) (f := scal hl r sc) dX12_askIn_57 (hN.c1) (by decide) (by decide) ?_
        have hM1 := hN.e1 3 ((hl 0 3) + 1) (by decide) (by omega)
        refine x_aload_n dX12_askIn_58 2 rfl ?_
        refine x_get (v := .ref (y + 5)) dX12_askIn_59 fX12_22 (hM1.1) rfl ?_
        refine x_pc (pc' := 62) rfl ?_
        refine x_iload_n dX12_askIn_62 1 rfl ?_
        refine x_iconst dX12_askIn_63 ki_m1 ?_
        refine x_iastN (n := 4) (f := blk r 5 4) dX12_askIn_64 (hM1.c5) (by omega) (by decide) ?_
        have hM2 := hM1.s5 (hl 0 3) (-1) (by omega)
        refine x_aload_n dX12_askIn_65 2 rfl ?_
        refine x_get (v := .ref (y + 7)) dX12_askIn_66 fX12_28 (hM2.1) rfl ?_
        refine x_iload_n dX12_askIn_69 1 rfl ?_
        refine x_iconst dX12_askIn_70 ki_0 ?_
        refine x_iastN (n := 4) (f := blk (upd r (5 + hl 0 3) (-1)) 13 4) dX12_askIn_71 (hM2.c7) (by omega) (by decide) ?_
        have hM3 := hM2.s7 (hl 0 3) (nI 0) (by omega)
        refine x_aload_n dX12_askIn_72 2 rfl ?_
        refine x_get (v := .ref (y + 4)) dX12_askIn_73 fX12_19 (hM3.1) rfl ?_
        refine x_pc (pc' := 76) rfl ?_
        refine x_iconst dX12_askIn_76 ki_4 ?_
        refine x_iload_n dX12_askIn_77 1 rfl ?_
        refine x_imulN dX12_askIn_78 ?_
        refine x_topi (y := nI (hl 0 3 * 4)) (by rw [Nat.mul_comm]) ?_
        refine x_iload_n dX12_askIn_79 0 rfl ?_
        refine x_iaddN dX12_askIn_80 ?_
        refine x_bipush dX12_askIn_81 kb_10 ?_
        refine x_iastN (n := 16) (f := fun j => skJ ((set2 hl 0 3 ((hl 0 3) + 1)) 3 j)) dX12_askIn_83 (hM3.c4) (by omega) (by decide) ?_
        refine x_geq (G' := xup _ (y + 4) (eI 0 16 (upd (fun j => skJ ((set2 hl 0 3 ((hl 0 3) + 1)) 3 j)) ((hl 0 3 * 4) + t) (skJ 10)))) rfl ?_
        have hM4 := hM3.e4 ((hl 0 3 * 4) + t) 10 (by decide)
        have e5 : upd (upd r (5 + hl 0 3) (-1)) (13 + hl 0 3) (nI 0) = r := by rw [f_at hgm]; exact f_at hgc
        have hNg := hM4
        rw [e5] at hNg
        change MW G0 _ y (guestH hl t) _ _ _ _ _ _ at hNg
        refine x_aload_n dX12_askIn_84 2 rfl ?_
        refine x_iload_n dX12_askIn_85 0 rfl ?_
        refine x_cVe (N := mX12_tries) (d' := 10) (mc := 0) (ms := 0) (cb := 0) (sb := 0) (As := [.int (nI t)]) (st := []) dX12_askIn_86 mX12_tries_v lX12_462 rfl rfl (hNg.1) rfl (by decide) (Nat.le_of_ble_eq_true rfl) (Md_tries (F := cF F 1 3650) (b := (tryF rv (candG hl r) (-1, savG hl rv r) t).1) (m := (tryF rv (candG hl r) (-1, savG hl rv r) t).2) hNg hk hb (guest_hall hO hg4 (fun i hi => by rw [hgs i hi]; omega)) hV (guest_row hrow hgm)) rfl (sf := fun e2 => []) (fun _ => rfl) (fun e2 hq2 => ?_)
        obtain ⟨⟨w2, k2⟩, G2⟩ := e2
        have hN0 : MW G0 G2 y (lbH hl (guestH hl t)) r sc A (tF (cF F 1 3650) (trS (tryF rv (candG hl r) (-1, savG hl rv r) t) (nI t) (savG (guestH hl t) rv r))) w2 k2 := hq2
        rw [tryF_y (p := (guestH hl t, r)) (if_pos hg4)] at hN0
        have hN2 : MW G0 G2 y (lbH hl (guestH hl t)) r sc A (tF F (tryF rv (candG hl r) (-1, savG hl rv r) (t + 1))) w2 k2 := hN0.fc rfl
        refine x_pc (pc' := 89) rfl ?_
        refine x_aload_n dX12_askIn_89 2 rfl ?_
        refine x_get (v := .ref (y + 4)) dX12_askIn_90 fX12_19 (hN2.1) rfl ?_
        refine x_iconst dX12_askIn_93 ki_4 ?_
        refine x_iload_n dX12_askIn_94 1 rfl ?_
        refine x_imulN dX12_askIn_95 ?_
        refine x_topi (y := nI (hl 0 3 * 4)) (by rw [Nat.mul_comm]) ?_
        refine x_iload_n dX12_askIn_96 0 rfl ?_
        refine x_iaddN dX12_askIn_97 ?_
        refine x_iconst dX12_askIn_98 ki_m1 ?_
        refine x_iastN (n := 16) (f := fun j => skJ ((lbH hl (guestH hl t)) 3 j)) dX12_askIn_99 (hN2.c4) (by omega) (by decide) ?_
        refine x_geq (G' := xup _ (y + 4) (eI 0 16 (upd (fun j => skJ ((lbH hl (guestH hl t)) 3 j)) ((hl 0 3 * 4) + t) (skJ 0)))) rfl ?_
        have hM5 := hN2.e4 ((hl 0 3 * 4) + t) 0 (by decide)
        refine x_iinc (v := nI (t + 1)) (ls' := [(3, .int (nI (t + 1))), (2, .int (nI (hl 0 3))), (0, .ref y), (1, .int (nI 0))]) dX12_askIn_100 0 rfl (nIs _) (by decide) rfl ?_
        refine x_pc (pc' := 103) rfl ?_
        refine x_goto (tgt := 33) dX12_askIn_103 (by decide) ?_
        have hN5 := hM5
        rw [guest_bk (hgs t (by omega))] at hN5
        exact ih (t + 1) _ _ _ (by omega) hN5
theorem Md_askIn_y0 {K : xG} {h y : Nat} {G0 G : xHp} {hl : xHl} {r : xRw} {sc : Nat × Nat × Int32} {A : Nat → Nat → Int32} {F : Nat → Int32} {wa sa : Nat → Int64} (hM : MW G0 G y hl r sc A F wa sa) {rv : Option (List Nat)} (hO : HallOk hl) (hV : RvR A sc rv) (hrow : RowOk hl r) (h1 : 0 < hl 0 0) (hgm : hl 0 3 < 4 → r (5 + hl 0 3) = -1) (hgc : hl 0 3 < 4 → r (13 + hl 0 3) = 0) (hgs : hl 0 3 < 4 → ∀ s, s < 4 → hl 3 (hl 0 3 * 4 + s) = 0) : xCall K mX12_askIn 12 0 0 [.ref y, .int (nI 0)] h G (mdK G0 h y (some (.int (tryF rv (candG hl r) (-1, savG hl rv r) (hl 0 2)).1)) hl r sc A F) := by
  refine x_entry (by decide) (ls := [(0, .ref y), (1, .int (nI 0))]) rfl (Nat.le_of_ble_eq_true rfl) ?_
  have hB := hM.hB
  obtain ⟨o2, o3, o4, o5, o6, o7, o8, o9⟩ := id hO
  refine x_aload_n dX12_askIn_0 0 rfl ?_
  refine x_cV (N := mX12_isHall) (d' := 0) (mc := 0) (ms := 0) (cb := 0) (sb := 0) (As := []) (st := []) dX12_askIn_1 mX12_isHall_v lX12_425 rfl rfl (hM.1) rfl (by decide) (Nat.le_of_ble_eq_true rfl) (Md_isHall hM) rfl (st1 := [.int (bI (decide (0 < hl 0 0)))]) rfl ?_
  refine x_ifB_eq (tgt := 17) dX12_askIn_4 (by decide) (fun c4 => ?_) (fun c4 => ?_)
  · exact absurd c4 (by rw [decide_eq_true h1]; decide)
  · refine x_iload_n dX12_askIn_7 1 rfl ?_
    refine x_i2l dX12_askIn_8 ?_
    refine x_lconst (v := 0) dX12_askIn_9 rfl ?_
    refine x_lconst (v := 1) dX12_askIn_10 rfl ?_
    refine x_cS (N := mX12_in) (d' := 0) (mc := 0) (ms := 0) (cb := 0) (sb := 0) (As := [.long ((nI 0).toInt64), .long 0, .long 1]) (st := []) dX12_askIn_11 mX12_in_s lX12_155 rfl (by decide) (Nat.le_of_ble_eq_true rfl) (Md_in) rfl (st1 := [.int (bI (decide (0 ≤ (nI 0).toInt64 ∧ (nI 0).toInt64 ≤ 1)))]) rfl ?_
    refine x_ifB_ne (tgt := 20) dX12_askIn_14 (by decide) (fun c14 => ?_) (fun c14 => ?_)
    · refine x_pc (pc' := 20) rfl ?_
      refine x_aload_n dX12_askIn_20 0 rfl ?_
      refine x_cVe (N := mX12_triesNothing) (d' := 11) (mc := 0) (ms := 0) (cb := 0) (sb := 0) (As := []) (st := []) dX12_askIn_21 mX12_triesNothing_v lX12_465 rfl rfl (hM.1) rfl (by decide) (Nat.le_of_ble_eq_true rfl) (Md_triesNothing hM hO hV hrow) rfl (sf := fun e2 => []) (fun _ => rfl) (fun e2 hq2 => ?_)
      obtain ⟨⟨w2, k2⟩, G2⟩ := e2
      have hN2 : MW G0 G2 y hl r sc (setA A 44 (svI (ovr A hl r sc) 3600 9)) (tF F (-1, savG hl rv r)) w2 k2 := hq2
      refine x_aload_n dX12_askIn_24 0 rfl ?_
      refine x_get (v := .ref (y + 1)) dX12_askIn_25 fX12_9 (hN2.1) rfl ?_
      refine x_iconst dX12_askIn_28 ki_3 ?_
      refine x_ialdN (n := 9) (f := scal hl r sc) dX12_askIn_29 (hN2.c1) (by decide) (by decide) ?_
      refine x_topi (y := nI (hl 0 3)) rfl ?_
      refine x_istore_n (ls' := [(2, .int (nI (hl 0 3))), (0, .ref y), (1, .int (nI 0))]) dX12_askIn_30 (by decide) rfl ?_
      refine x_iconst dX12_askIn_31 ki_0 ?_
      refine x_istore_n (ls' := [(3, .int (nI 0)), (2, .int (nI (hl 0 3))), (0, .ref y), (1, .int (nI 0))]) dX12_askIn_32 (by decide) rfl ?_
      by_cases hg4 : hl 0 3 < 4
      · refine x_post (fun v h2 G9 hq => ?_) (Md_askIn_loop0 (A := (setA A 44 (svI (ovr A hl r sc) 3600 9))) (Kept_sv (A := A)) hB hO (hV.set (by omega)) hrow (hgm hg4) (hgc hg4) (hgs hg4) hg4 (hl 0 2) 0 w2 k2 G2 (by omega) hN2)
        obtain ⟨⟨⟨w9, k9⟩, G8⟩, hq1, hq2, hq3, hq4⟩ := hq
        exact ⟨((hl, (setA A 44 (svI (ovr A hl r sc) 3600 9)), _), (w9, k9), G8), ⟨hq1, LX.rf hB, AS.kp, ⟨rfl, rfl, rfl, rfl⟩⟩, hq2, hq3, hq4⟩
      · have hall0 : ∀ n, tryF rv (candG hl r) (-1, savG hl rv r) n = (-1, savG hl rv r) := by intro n; induction n with | zero => rfl | succ n ih => rw [tryF_n (if_neg hg4), ih]
        refine x_iload_n dX12_askIn_33 0 rfl ?_
        refine x_pc (pc' := 34) rfl ?_
        refine x_aload_n dX12_askIn_34 2 rfl ?_
        refine x_get (v := .ref (y + 1)) dX12_askIn_35 fX12_9 (hN2.1) rfl ?_
        refine x_iconst dX12_askIn_38 ki_2 ?_
        refine x_ialdN (n := 9) (f := scal hl r sc) dX12_askIn_39 (hN2.c1) (by decide) (by decide) ?_
        refine x_topi (y := nI (hl 0 2)) rfl ?_
        refine x_icmpN_ge (tgt := 106) dX12_askIn_40 (by decide) (by omega) (by omega) (fun c40 => ?_) (fun c40 => ?_)
        · refine x_iload_n dX12_askIn_106 3 rfl ?_
          refine x_ifN_ne (tgt := 117) dX12_askIn_107 (by decide) (by omega) (fun c107 => ?_) (fun c107 => ?_)
          · exact absurd c107 (by decide)
          · refine x_aload_n dX12_askIn_110 2 rfl ?_
            refine x_get (v := .int (-1)) dX12_askIn_111 fX12_459 (hN2.1) rfl ?_
            refine x_goto (tgt := 121) dX12_askIn_114 (by decide) ?_
            refine x_pc (pc' := 121) rfl ?_
            exact x_iret dX12_askIn_121 rfl (xEx_i ((hl, (setA A 44 (svI (ovr A hl r sc) 3600 9)), _), (w2, k2), G2) ⟨hN2, LX.rf hB, AS.kp, ⟨rfl, rfl, rfl, rfl⟩⟩ (by rw [hall0]) rfl rfl)
        · refine x_iload_n dX12_askIn_43 1 rfl ?_
          refine x_iconst dX12_askIn_44 ki_4 ?_
          refine x_icmpN_ge (tgt := 106) dX12_askIn_45 (by decide) (by omega) (by omega) (fun c45 => ?_) (fun c45 => ?_)
          · refine x_iload_n dX12_askIn_106 3 rfl ?_
            refine x_ifN_ne (tgt := 117) dX12_askIn_107 (by decide) (by omega) (fun c107 => ?_) (fun c107 => ?_)
            · exact absurd c107 (by decide)
            · refine x_pc (pc' := 110) rfl ?_
              refine x_aload_n dX12_askIn_110 2 rfl ?_
              refine x_get (v := .int (-1)) dX12_askIn_111 fX12_459 (hN2.1) rfl ?_
              refine x_goto (tgt := 121) dX12_askIn_114 (by decide) ?_
              exact x_iret dX12_askIn_121 rfl (xEx_i ((hl, (setA A 44 (svI (ovr A hl r sc) 3600 9)), _), (w2, k2), G2) ⟨hN2, LX.rf hB, AS.kp, ⟨rfl, rfl, rfl, rfl⟩⟩ (by rw [hall0]) rfl rfl)
          · exact absurd c45 hg4
    · exact absurd c14 (by decide)
theorem Md_askIn_loop1 {K : xG} {h y : Nat} {G0 : xHp} {hl : xHl} {r : xRw} {sc : Nat × Nat × Int32} {A : Nat → Nat → Int32} {F : Nat → Int32} {rv : Option (List Nat)} (hk : Kept (A 44) hl r sc) (hb : ∀ i j, hl i j < 1000000) (hO : HallOk hl) (hV : RvR A sc rv) (hrow : RowOk hl r) (hgm : r (5 + hl 0 3) = -1) (hgc : r (13 + hl 0 3) = 0) (hgs : ∀ s, s < 4 → hl 3 (hl 0 3 * 4 + s) = 0) (hg4 : hl 0 3 < 4) : ∀ (i t : Nat) (w1 k1 : Nat → Int64) (G1 : xHp), t + i = hl 0 2 → MW G0 G1 y hl r sc A (tF F (tryF rv (candG hl r) (-1, savG hl rv r) t)) w1 k1 → xV K mX12_askIn 12 0 0 h G1 33 [(3, .int (nI t)), (2, .int (nI (hl 0 3))), (0, .ref y), (1, .int (nI 1))] [] (mdX G0 h y (some (.int (tryF rv (candG hl r) (-1, savG hl rv r) (hl 0 2)).2)) hl r sc A (tF F (tryF rv (candG hl r) (-1, savG hl rv r) (hl 0 2)))) := by
  obtain ⟨o2, o3, o4, o5, o6, o7, o8, o9⟩ := id hO
  intro i
  induction i with
  | zero =>
    intro t w1 k1 G1 hi hN
    have hi0 : t = hl 0 2 := by omega
    subst hi0
    refine x_iload_n dX12_askIn_33 0 rfl ?_
    refine x_aload_n dX12_askIn_34 2 rfl ?_
    refine x_get (v := .ref (y + 1)) dX12_askIn_35 fX12_9 (hN.1) rfl ?_
    refine x_iconst dX12_askIn_38 ki_2 ?_
    refine x_ialdN (n := 9) (f := scal hl r sc) dX12_askIn_39 (hN.c1) (by decide) (by decide) ?_
    refine x_topi (y := nI (hl 0 2)) rfl ?_
    refine x_icmpN_ge (tgt := 106) dX12_askIn_40 (by decide) (by omega) (by omega) (fun c40 => ?_) (fun c40 => ?_)
    · refine x_iload_n dX12_askIn_106 3 rfl ?_
      refine x_ifN_ne (tgt := 117) dX12_askIn_107 (by decide) (by omega) (fun c107 => ?_) (fun c107 => ?_)
      · refine x_aload_n dX12_askIn_117 2 rfl ?_
        refine x_pc (pc' := 118) rfl ?_
        refine x_get (v := .int ((tryF rv (candG hl r) (-1, savG hl rv r) (hl 0 2)).2)) dX12_askIn_118 fX12_456 (hN.1) rfl ?_
        exact x_iret dX12_askIn_121 rfl (xEx_i ((w1, k1), G1) hN rfl rfl rfl)
      · exact absurd c107 (by decide)
    · exact absurd c40 (by omega)
  | succ i ih =>
    intro t w1 k1 G1 hi hN
    refine x_iload_n dX12_askIn_33 0 rfl ?_
    refine x_aload_n dX12_askIn_34 2 rfl ?_
    refine x_get (v := .ref (y + 1)) dX12_askIn_35 fX12_9 (hN.1) rfl ?_
    refine x_iconst dX12_askIn_38 ki_2 ?_
    refine x_ialdN (n := 9) (f := scal hl r sc) dX12_askIn_39 (hN.c1) (by decide) (by decide) ?_
    refine x_topi (y := nI (hl 0 2)) rfl ?_
    refine x_icmpN_ge (tgt := 106) dX12_askIn_40 (by decide) (by omega) (by omega) (fun c40 => ?_) (fun c40 => ?_)
    · exact absurd c40 (by omega)
    · refine x_iload_n dX12_askIn_43 1 rfl ?_
      refine x_iconst dX12_askIn_44 ki_4 ?_
      refine x_icmpN_ge (tgt := 106) dX12_askIn_45 (by decide) (by omega) (by omega) (fun c45 => ?_) (fun c45 => ?_)
      · exact absurd c45 (by omega)
      · refine x_pc (pc' := 48) rfl ?_
        refine x_aload_n dX12_askIn_48 2 rfl ?_
        refine x_get (v := .ref (y + 1)) dX12_askIn_49 fX12_9 (hN.1) rfl ?_
        refine x_iconst dX12_askIn_52 ki_3 ?_
        refine x_dup2 dX12_askIn_53 rfl rfl ?_
        refine x_ialdN (n := 9) (f := scal hl r sc) dX12_askIn_54 (hN.c1) (by decide) (by decide) ?_
        refine x_topi (y := nI (hl 0 3)) rfl ?_
        refine x_iconst dX12_askIn_55 ki_1 ?_
        refine x_iaddN dX12_askIn_56 ?_
        refine x_iastN (n := 9) (f := scal hl r sc) dX12_askIn_57 (hN.c1) (by decide) (by decide) ?_
        have hM1 := hN.e1 3 ((hl 0 3) + 1) (by decide) (by omega)
        refine x_aload_n dX12_askIn_58 2 rfl ?_
        refine x_get (v := .ref (y + 5)) dX12_askIn_59 fX12_22 (hM1.1) rfl ?_
        refine x_pc (pc' := 62) rfl ?_
        refine x_iload_n dX12_askIn_62 1 rfl ?_
        refine x_iconst dX12_askIn_63 ki_m1 ?_
        refine x_iastN (n := 4) (f := blk r 5 4) dX12_askIn_64 (hM1.c5) (by omega) (by decide) ?_
        have hM2 := hM1.s5 (hl 0 3) (-1) (by omega)
        refine x_aload_n dX12_askIn_65 2 rfl ?_
        refine x_get (v := .ref (y + 7)) dX12_askIn_66 fX12_28 (hM2.1) rfl ?_
        refine x_iload_n dX12_askIn_69 1 rfl ?_
        refine x_iconst dX12_askIn_70 ki_0 ?_
        refine x_iastN (n := 4) (f := blk (upd r (5 + hl 0 3) (-1)) 13 4) dX12_askIn_71 (hM2.c7) (by omega) (by decide) ?_
        have hM3 := hM2.s7 (hl 0 3) (nI 0) (by omega)
        refine x_aload_n dX12_askIn_72 2 rfl ?_
        refine x_get (v := .ref (y + 4)) dX12_askIn_73 fX12_19 (hM3.1) rfl ?_
        refine x_pc (pc' := 76) rfl ?_
        refine x_iconst dX12_askIn_76 ki_4 ?_
        refine x_iload_n dX12_askIn_77 1 rfl ?_
        refine x_imulN dX12_askIn_78 ?_
        refine x_topi (y := nI (hl 0 3 * 4)) (by rw [Nat.mul_comm]) ?_
        refine x_iload_n dX12_askIn_79 0 rfl ?_
        refine x_iaddN dX12_askIn_80 ?_
        refine x_bipush dX12_askIn_81 kb_10 ?_
        refine x_iastN (n := 16) (f := fun j => skJ ((set2 hl 0 3 ((hl 0 3) + 1)) 3 j)) dX12_askIn_83 (hM3.c4) (by omega) (by decide) ?_
        refine x_geq (G' := xup _ (y + 4) (eI 0 16 (upd (fun j => skJ ((set2 hl 0 3 ((hl 0 3) + 1)) 3 j)) ((hl 0 3 * 4) + t) (skJ 10)))) rfl ?_
        have hM4 := hM3.e4 ((hl 0 3 * 4) + t) 10 (by decide)
        have e5 : upd (upd r (5 + hl 0 3) (-1)) (13 + hl 0 3) (nI 0) = r := by rw [f_at hgm]; exact f_at hgc
        have hNg := hM4
        rw [e5] at hNg
        change MW G0 _ y (guestH hl t) _ _ _ _ _ _ at hNg
        refine x_aload_n dX12_askIn_84 2 rfl ?_
        refine x_iload_n dX12_askIn_85 0 rfl ?_
        refine x_cVe (N := mX12_tries) (d' := 10) (mc := 0) (ms := 0) (cb := 0) (sb := 0) (As := [.int (nI t)]) (st := []) dX12_askIn_86 mX12_tries_v lX12_462 rfl rfl (hNg.1) rfl (by decide) (Nat.le_of_ble_eq_true rfl) (Md_tries (F := cF F 1 3650) (b := (tryF rv (candG hl r) (-1, savG hl rv r) t).1) (m := (tryF rv (candG hl r) (-1, savG hl rv r) t).2) hNg hk hb (guest_hall hO hg4 (fun i hi => by rw [hgs i hi]; omega)) hV (guest_row hrow hgm)) rfl (sf := fun e2 => []) (fun _ => rfl) (fun e2 hq2 => ?_)
        obtain ⟨⟨w2, k2⟩, G2⟩ := e2
        have hN0 : MW G0 G2 y (lbH hl (guestH hl t)) r sc A (tF (cF F 1 3650) (trS (tryF rv (candG hl r) (-1, savG hl rv r) t) (nI t) (savG (guestH hl t) rv r))) w2 k2 := hq2
        rw [tryF_y (p := (guestH hl t, r)) (if_pos hg4)] at hN0
        have hN2 : MW G0 G2 y (lbH hl (guestH hl t)) r sc A (tF F (tryF rv (candG hl r) (-1, savG hl rv r) (t + 1))) w2 k2 := hN0.fc rfl
        refine x_pc (pc' := 89) rfl ?_
        refine x_aload_n dX12_askIn_89 2 rfl ?_
        refine x_get (v := .ref (y + 4)) dX12_askIn_90 fX12_19 (hN2.1) rfl ?_
        refine x_iconst dX12_askIn_93 ki_4 ?_
        refine x_iload_n dX12_askIn_94 1 rfl ?_
        refine x_imulN dX12_askIn_95 ?_
        refine x_topi (y := nI (hl 0 3 * 4)) (by rw [Nat.mul_comm]) ?_
        refine x_iload_n dX12_askIn_96 0 rfl ?_
        refine x_iaddN dX12_askIn_97 ?_
        refine x_iconst dX12_askIn_98 ki_m1 ?_
        refine x_iastN (n := 16) (f := fun j => skJ ((lbH hl (guestH hl t)) 3 j)) dX12_askIn_99 (hN2.c4) (by omega) (by decide) ?_
        refine x_geq (G' := xup _ (y + 4) (eI 0 16 (upd (fun j => skJ ((lbH hl (guestH hl t)) 3 j)) ((hl 0 3 * 4) + t) (skJ 0)))) rfl ?_
        have hM5 := hN2.e4 ((hl 0 3 * 4) + t) 0 (by decide)
        refine x_iinc (v := nI (t + 1)) (ls' := [(3, .int (nI (t + 1))), (2, .int (nI (hl 0 3))), (0, .ref y), (1, .int (nI 1))]) dX12_askIn_100 0 rfl (nIs _) (by decide) rfl ?_
        refine x_pc (pc' := 103) rfl ?_
        refine x_goto (tgt := 33) dX12_askIn_103 (by decide) ?_
        have hN5 := hM5
        rw [guest_bk (hgs t (by omega))] at hN5
        exact ih (t + 1) _ _ _ (by omega) hN5
theorem Md_askIn_y1 {K : xG} {h y : Nat} {G0 G : xHp} {hl : xHl} {r : xRw} {sc : Nat × Nat × Int32} {A : Nat → Nat → Int32} {F : Nat → Int32} {wa sa : Nat → Int64} (hM : MW G0 G y hl r sc A F wa sa) {rv : Option (List Nat)} (hO : HallOk hl) (hV : RvR A sc rv) (hrow : RowOk hl r) (h1 : 0 < hl 0 0) (hgm : hl 0 3 < 4 → r (5 + hl 0 3) = -1) (hgc : hl 0 3 < 4 → r (13 + hl 0 3) = 0) (hgs : hl 0 3 < 4 → ∀ s, s < 4 → hl 3 (hl 0 3 * 4 + s) = 0) : xCall K mX12_askIn 12 0 0 [.ref y, .int (nI 1)] h G (mdK G0 h y (some (.int (tryF rv (candG hl r) (-1, savG hl rv r) (hl 0 2)).2)) hl r sc A F) := by
  refine x_entry (by decide) (ls := [(0, .ref y), (1, .int (nI 1))]) rfl (Nat.le_of_ble_eq_true rfl) ?_
  have hB := hM.hB
  obtain ⟨o2, o3, o4, o5, o6, o7, o8, o9⟩ := id hO
  refine x_aload_n dX12_askIn_0 0 rfl ?_
  refine x_cV (N := mX12_isHall) (d' := 0) (mc := 0) (ms := 0) (cb := 0) (sb := 0) (As := []) (st := []) dX12_askIn_1 mX12_isHall_v lX12_425 rfl rfl (hM.1) rfl (by decide) (Nat.le_of_ble_eq_true rfl) (Md_isHall hM) rfl (st1 := [.int (bI (decide (0 < hl 0 0)))]) rfl ?_
  refine x_ifB_eq (tgt := 17) dX12_askIn_4 (by decide) (fun c4 => ?_) (fun c4 => ?_)
  · exact absurd c4 (by rw [decide_eq_true h1]; decide)
  · refine x_iload_n dX12_askIn_7 1 rfl ?_
    refine x_i2l dX12_askIn_8 ?_
    refine x_lconst (v := 0) dX12_askIn_9 rfl ?_
    refine x_lconst (v := 1) dX12_askIn_10 rfl ?_
    refine x_cS (N := mX12_in) (d' := 0) (mc := 0) (ms := 0) (cb := 0) (sb := 0) (As := [.long ((nI 1).toInt64), .long 0, .long 1]) (st := []) dX12_askIn_11 mX12_in_s lX12_155 rfl (by decide) (Nat.le_of_ble_eq_true rfl) (Md_in) rfl (st1 := [.int (bI (decide (0 ≤ (nI 1).toInt64 ∧ (nI 1).toInt64 ≤ 1)))]) rfl ?_
    refine x_ifB_ne (tgt := 20) dX12_askIn_14 (by decide) (fun c14 => ?_) (fun c14 => ?_)
    · refine x_pc (pc' := 20) rfl ?_
      refine x_aload_n dX12_askIn_20 0 rfl ?_
      refine x_cVe (N := mX12_triesNothing) (d' := 11) (mc := 0) (ms := 0) (cb := 0) (sb := 0) (As := []) (st := []) dX12_askIn_21 mX12_triesNothing_v lX12_465 rfl rfl (hM.1) rfl (by decide) (Nat.le_of_ble_eq_true rfl) (Md_triesNothing hM hO hV hrow) rfl (sf := fun e2 => []) (fun _ => rfl) (fun e2 hq2 => ?_)
      obtain ⟨⟨w2, k2⟩, G2⟩ := e2
      have hN2 : MW G0 G2 y hl r sc (setA A 44 (svI (ovr A hl r sc) 3600 9)) (tF F (-1, savG hl rv r)) w2 k2 := hq2
      refine x_aload_n dX12_askIn_24 0 rfl ?_
      refine x_get (v := .ref (y + 1)) dX12_askIn_25 fX12_9 (hN2.1) rfl ?_
      refine x_iconst dX12_askIn_28 ki_3 ?_
      refine x_ialdN (n := 9) (f := scal hl r sc) dX12_askIn_29 (hN2.c1) (by decide) (by decide) ?_
      refine x_topi (y := nI (hl 0 3)) rfl ?_
      refine x_istore_n (ls' := [(2, .int (nI (hl 0 3))), (0, .ref y), (1, .int (nI 1))]) dX12_askIn_30 (by decide) rfl ?_
      refine x_iconst dX12_askIn_31 ki_0 ?_
      refine x_istore_n (ls' := [(3, .int (nI 0)), (2, .int (nI (hl 0 3))), (0, .ref y), (1, .int (nI 1))]) dX12_askIn_32 (by decide) rfl ?_
      by_cases hg4 : hl 0 3 < 4
      · refine x_post (fun v h2 G9 hq => ?_) (Md_askIn_loop1 (A := (setA A 44 (svI (ovr A hl r sc) 3600 9))) (Kept_sv (A := A)) hB hO (hV.set (by omega)) hrow (hgm hg4) (hgc hg4) (hgs hg4) hg4 (hl 0 2) 0 w2 k2 G2 (by omega) hN2)
        obtain ⟨⟨⟨w9, k9⟩, G8⟩, hq1, hq2, hq3, hq4⟩ := hq
        exact ⟨((hl, (setA A 44 (svI (ovr A hl r sc) 3600 9)), _), (w9, k9), G8), ⟨hq1, LX.rf hB, AS.kp, ⟨rfl, rfl, rfl, rfl⟩⟩, hq2, hq3, hq4⟩
      · have hall0 : ∀ n, tryF rv (candG hl r) (-1, savG hl rv r) n = (-1, savG hl rv r) := by intro n; induction n with | zero => rfl | succ n ih => rw [tryF_n (if_neg hg4), ih]
        refine x_iload_n dX12_askIn_33 0 rfl ?_
        refine x_pc (pc' := 34) rfl ?_
        refine x_aload_n dX12_askIn_34 2 rfl ?_
        refine x_get (v := .ref (y + 1)) dX12_askIn_35 fX12_9 (hN2.1) rfl ?_
        refine x_iconst dX12_askIn_38 ki_2 ?_
        refine x_ialdN (n := 9) (f := scal hl r sc) dX12_askIn_39 (hN2.c1) (by decide) (by decide) ?_
        refine x_topi (y := nI (hl 0 2)) rfl ?_
        refine x_icmpN_ge (tgt := 106) dX12_askIn_40 (by decide) (by omega) (by omega) (fun c40 => ?_) (fun c40 => ?_)
        · refine x_iload_n dX12_askIn_106 3 rfl ?_
          refine x_ifN_ne (tgt := 117) dX12_askIn_107 (by decide) (by omega) (fun c107 => ?_) (fun c107 => ?_)
          · refine x_aload_n dX12_askIn_117 2 rfl ?_
            refine x_get (v := .int (savG hl rv r)) dX12_askIn_118 fX12_456 (hN2.1) rfl ?_
            exact x_iret dX12_askIn_121 rfl (xEx_i ((hl, (setA A 44 (svI (ovr A hl r sc) 3600 9)), _), (w2, k2), G2) ⟨hN2, LX.rf hB, AS.kp, ⟨rfl, rfl, rfl, rfl⟩⟩ (by rw [hall0]) rfl rfl)
          · exact absurd c107 (by decide)
        · refine x_iload_n dX12_askIn_43 1 rfl ?_
          refine x_iconst dX12_askIn_44 ki_4 ?_
          refine x_icmpN_ge (tgt := 106) dX12_askIn_45 (by decide) (by omega) (by omega) (fun c45 => ?_) (fun c45 => ?_)
          · refine x_iload_n dX12_askIn_106 3 rfl ?_
            refine x_ifN_ne (tgt := 117) dX12_askIn_107 (by decide) (by omega) (fun c107 => ?_) (fun c107 => ?_)
            · refine x_pc (pc' := 117) rfl ?_
              refine x_aload_n dX12_askIn_117 2 rfl ?_
              refine x_get (v := .int (savG hl rv r)) dX12_askIn_118 fX12_456 (hN2.1) rfl ?_
              exact x_iret dX12_askIn_121 rfl (xEx_i ((hl, (setA A 44 (svI (ovr A hl r sc) 3600 9)), _), (w2, k2), G2) ⟨hN2, LX.rf hB, AS.kp, ⟨rfl, rfl, rfl, rfl⟩⟩ (by rw [hall0]) rfl rfl)
            · exact absurd c107 (by decide)
          · exact absurd c45 hg4
    · exact absurd c14 (by decide)
theorem Md_late_n {K : xG} {h y : Nat} {G0 G : xHp} {hl : xHl} {r : xRw} {sc : Nat × Nat × Int32} {A : Nat → Nat → Int32} {F : Nat → Int32} {wa sa : Nat → Int64} {v : Int32} (hM : MW G0 G y hl r sc A F wa sa) (hO : HallOk hl) (hn : inR v (hl 0 2) = false) : xCall K mX12_late 9 0 0 [.ref y, .int v] h G (xRet (some (.int (-1))) h G) := by
  refine x_entry (by decide) (ls := [(0, .ref y), (1, .int v)]) rfl (Nat.le_of_ble_eq_true rfl) ?_
  have hB := hM.hB
  obtain ⟨o2, o3, o4, o5, o6, o7, o8, o9⟩ := id hO
  refine x_aload_n dX12_late_0 0 rfl ?_
  refine x_iload_n dX12_late_1 1 rfl ?_
  refine x_cV (N := mX12_isSort) (d' := 1) (mc := 0) (ms := 0) (cb := 0) (sb := 0) (As := [.int v]) (st := []) dX12_late_2 mX12_isSort_v lX12_367 rfl rfl (hM.1) rfl (by decide) (Nat.le_of_ble_eq_true rfl) (Md_isSort hM) rfl (st1 := [.int (bI (inR v (hl 0 2)))]) rfl ?_
  refine x_ifB_ne (tgt := 10) dX12_late_5 (by decide) (fun c5 => ?_) (fun c5 => ?_)
  · exact absurd c5 (by rw [hn]; decide)
  · refine x_iconst dX12_late_8 ki_m1 ?_
    exact x_iret dX12_late_9 rfl (xRet_i)
theorem Md_late_7 {K : xG} {h y : Nat} {G0 G : xHp} {hl : xHl} {r : xRw} {sc : Nat × Nat × Int32} {A : Nat → Nat → Int32} {F : Nat → Int32} {wa sa : Nat → Int64} {s : Nat} (hM : MW G0 G y hl r sc A F wa sa) (hO : HallOk hl) (hs : s < hl 0 2) (h7 : hl 0 4 = 7) : xCall K mX12_late 9 0 0 [.ref y, .int (nI s)] h G (xRet (some (.int (-2))) h G) := by
  refine x_entry (by decide) (ls := [(0, .ref y), (1, .int (nI s))]) rfl (Nat.le_of_ble_eq_true rfl) ?_
  have hB := hM.hB
  obtain ⟨o2, o3, o4, o5, o6, o7, o8, o9⟩ := id hO
  refine x_aload_n dX12_late_0 0 rfl ?_
  refine x_iload_n dX12_late_1 1 rfl ?_
  refine x_cV (N := mX12_isSort) (d' := 1) (mc := 0) (ms := 0) (cb := 0) (sb := 0) (As := [.int (nI s)]) (st := []) dX12_late_2 mX12_isSort_v lX12_367 rfl rfl (hM.1) rfl (by decide) (Nat.le_of_ble_eq_true rfl) (Md_isSort hM) rfl (st1 := [.int (bI (inR (nI s) (hl 0 2)))]) rfl ?_
  refine x_ifB_ne (tgt := 10) dX12_late_5 (by decide) (fun c5 => ?_) (fun c5 => ?_)
  · refine x_aload_n dX12_late_10 0 rfl ?_
    refine x_get (v := .ref (y + 1)) dX12_late_11 fX12_9 (hM.1) rfl ?_
    refine x_iconst dX12_late_14 ki_4 ?_
    refine x_ialdN (n := 9) (f := scal hl r sc) dX12_late_15 (hM.c1) (by decide) (by decide) ?_
    refine x_topi (y := nI (hl 0 4)) rfl ?_
    refine x_istore_n (ls' := [(2, .int (nI (hl 0 4))), (0, .ref y), (1, .int (nI s))]) dX12_late_16 (by decide) rfl ?_
    refine x_pc (pc' := 17) rfl ?_
    refine x_iload_n dX12_late_17 0 rfl ?_
    refine x_bipush dX12_late_18 kb_7 ?_
    refine x_icmpN_ne (tgt := 26) dX12_late_20 (by decide) (by omega) (by omega) (fun c20 => ?_) (fun c20 => ?_)
    · exact absurd h7 c20
    · refine x_bipush dX12_late_23 kb_m2 ?_
      exact x_iret dX12_late_25 rfl (xRet_i)
  · exact absurd c5 (by rw [inR_nI (by omega), decide_eq_true hs]; decide)
theorem late_u (m k : Nat) (h : m + k < 100000) : (k = 0 ∧ nI (m + k) + (-1) < nI m) ∨ ∃ k2, k = k2 + 1 ∧ nI (m + k) + (-1) = nI (m + k2) := by
  cases k with
  | zero => exact Or.inl ⟨rfl, lt_m1 (by omega)⟩
  | succ k => exact Or.inr ⟨k, rfl, by rw [show m + (k + 1) = m + k + 1 by omega, pk_m1]⟩
theorem Md_late_loop {K : xG} {h y : Nat} {G0 : xHp} {hl : xHl} {r : xRw} {sc : Nat × Nat × Int32} {A : Nat → Nat → Int32} {F : Nat → Int32} {R : Int32} {s m : Nat} {rv : Option (List Nat)} (hk : Kept (A 44) hl r sc) (hb : ∀ i j, hl i j < 1000000) (hO : HallOk hl) (hV : RvR A sc rv) (hrow : RowOk hl r) (hs : s < hl 0 2) (h7 : hl 0 4 < 7) (hm : r 0 = nI m) (hm9 : m ≤ 999) (h0 : r (21 + hl 0 4) = 0) : ∀ (k : Nat) (u : Int32) (hx : xHl) (Fx : Nat → Int32) (w1 k1 : Nat → Int64) (G1 : xHp), m + k ≤ 2000 → ((k = 0 ∧ u < nI m) ∨ ∃ k2, k = k2 + 1 ∧ u = nI (m + k2)) → (k = 0 ∨ m + k ≤ hl 0 0 + 1) → lateF hl rv r s m k = R → LX hl hx (hl 0 4) → FS F Fx → MW G0 G1 y hx r sc A Fx w1 k1 → xV K mX12_late 9 0 0 h G1 41 [(4, .int u), (3, .int (-2)), (2, .int (nI (hl 0 4))), (0, .ref y), (1, .int (nI s))] [] (xEx (fun e : (xHl × (Nat → Int32)) × ((Nat → Int64) × (Nat → Int64)) × xHp => MW G0 e.2.2 y e.1.1 r sc A e.1.2 e.2.1.1 e.2.1.2 ∧ LX hl e.1.1 (hl 0 4) ∧ FS F e.1.2) (fun _ => some (.int R)) (fun _ => h) (fun e => e.2.2)) := by
  obtain ⟨o2, o3, o4, o5, o6, o7, o8, o9⟩ := id hO
  intro k
  induction k with
  | zero =>
    intro u hx Fx w1 k1 G1 hk2 hu hke hr hlx hfs hN
    have hu0 : u < nI m := by rcases hu with ⟨-, z⟩ | ⟨k2, z, -⟩; exact z; exact absurd z (by omega)
    have hR : R = -2 := hr.symm
    subst hR
    refine x_iload dX12_late_41 0 rfl ?_
    refine x_aload_n dX12_late_43 3 rfl ?_
    refine x_get (v := .ref (y + 1)) dX12_late_44 fX12_9 (hN.1) rfl ?_
    refine x_iconst dX12_late_47 ki_5 ?_
    refine x_ialdN (n := 9) (f := scal hx r sc) dX12_late_48 (hN.c1) (by decide) (by decide) ?_
    refine x_topi (y := r 0) rfl ?_
    refine x_icmp_lt (x := u) (y := r 0) (tgt := 139) dX12_late_49 (by decide) (fun c49 => ?_) (fun c49 => ?_)
    · refine x_iload_n dX12_late_139 1 rfl ?_
      exact x_iret dX12_late_140 rfl (xEx_i ((hx, Fx), (w1, k1), G1) ⟨hN, hlx, hfs⟩ rfl rfl rfl)
    · exact absurd (show u < r 0 from by rw [hm]; exact hu0) c49
  | succ k ih =>
    intro u hx Fx w1 k1 G1 hk2 hu hke hr hlx hfs hN
    have hu0 : u = nI (m + k) := by rcases hu with ⟨z, -⟩ | ⟨k2, z, z2⟩; exact absurd z (by omega); have : k2 = k := (by omega); rw [this] at z2; exact z2
    subst hu0
    have hke2 : m + k ≤ 300 := by omega
    have hx04 : hx 0 4 = hl 0 4 := hlx.1 0 4 (by omega)
    refine x_iload dX12_late_41 0 rfl ?_
    refine x_aload_n dX12_late_43 3 rfl ?_
    refine x_get (v := .ref (y + 1)) dX12_late_44 fX12_9 (hN.1) rfl ?_
    refine x_iconst dX12_late_47 ki_5 ?_
    refine x_ialdN (n := 9) (f := scal hx r sc) dX12_late_48 (hN.c1) (by decide) (by decide) ?_
    refine x_topi (y := r 0) rfl ?_
    refine x_icmp_lt (x := nI (m + k)) (y := r 0) (tgt := 139) dX12_late_49 (by decide) (fun c49 => ?_) (fun c49 => ?_)
    · exact absurd (by rw [hm] at c49; exact c49) (nI_nlt (by omega) (by omega))
    · refine x_iload_n dX12_late_52 1 rfl ?_
      refine x_bipush dX12_late_53 kb_m2 ?_
      refine x_icmp_ne (x := (-2)) (y := (-2)) (tgt := 139) dX12_late_55 (by decide) (fun c55 => ?_) (fun c55 => ?_)
      · exact absurd rfl c55
      · refine x_pc (pc' := 58) rfl ?_
        refine x_aload_n dX12_late_58 3 rfl ?_
        refine x_get (v := .ref (y + 1)) dX12_late_59 fX12_9 (hN.1) rfl ?_
        refine x_iconst dX12_late_62 ki_4 ?_
        refine x_dup2 dX12_late_63 rfl rfl ?_
        refine x_ialdN (n := 9) (f := scal hx r sc) dX12_late_64 (hN.c1) (by decide) (by decide) ?_
        refine x_topi (y := nI (hx 0 4)) rfl ?_
        refine x_topi (y := nI (hl 0 4)) (by rw [hx04]) ?_
        refine x_iconst dX12_late_65 ki_1 ?_
        refine x_iaddN dX12_late_66 ?_
        refine x_iastN (n := 9) (f := scal hx r sc) dX12_late_67 (hN.c1) (by decide) (by decide) ?_
        have hM1 := hN.e1 4 ((hl 0 4) + 1) (by decide) (by omega)
        refine x_aload_n dX12_late_68 3 rfl ?_
        refine x_get (v := .ref (y + 9)) dX12_late_69 fX12_34 (hM1.1) rfl ?_
        refine x_pc (pc' := 72) rfl ?_
        refine x_iload_n dX12_late_72 2 rfl ?_
        refine x_iload_n dX12_late_73 4 rfl ?_
        refine x_iastN (n := 7) (f := nF ((set2 hx 0 4 ((hl 0 4) + 1)) 4)) dX12_late_74 (hM1.c9) (by omega) (by decide) ?_
        have hM2 := hM1.e9 (hl 0 4) s (by omega)
        refine x_aload_n dX12_late_75 3 rfl ?_
        refine x_get (v := .ref (y + 10)) dX12_late_76 fX12_37 (hM2.1) rfl ?_
        refine x_iload_n dX12_late_79 2 rfl ?_
        refine x_iload dX12_late_80 0 rfl ?_
        refine x_iastN (n := 7) (f := nF ((set2 (set2 hx 0 4 ((hl 0 4) + 1)) 4 (hl 0 4) s) 5)) dX12_late_82 (hM2.c10) (by omega) (by decide) ?_
        have hM3 := hM2.e10 (hl 0 4) (m + k) (by omega)
        refine x_aload_n dX12_late_83 3 rfl ?_
        refine x_get (v := .ref (y + 11)) dX12_late_84 fX12_40 (hM3.1) rfl ?_
        refine x_pc (pc' := 87) rfl ?_
        refine x_iload_n dX12_late_87 2 rfl ?_
        refine x_iconst dX12_late_88 ki_1 ?_
        refine x_iastN (n := 7) (f := nF ((set2 (set2 (set2 hx 0 4 ((hl 0 4) + 1)) 4 (hl 0 4) s) 5 (hl 0 4) (m + k)) 6)) dX12_late_89 (hM3.c11) (by omega) (by decide) ?_
        have hM4 := hM3.e11 (hl 0 4) 1 (by omega)
        refine x_aload_n dX12_late_90 3 rfl ?_
        refine x_get (v := .ref (y + 12)) dX12_late_91 fX12_43 (hM4.1) rfl ?_
        refine x_iload_n dX12_late_94 2 rfl ?_
        refine x_iconst dX12_late_95 ki_0 ?_
        refine x_iastN (n := 7) (f := nF ((set2 (set2 (set2 (set2 hx 0 4 ((hl 0 4) + 1)) 4 (hl 0 4) s) 5 (hl 0 4) (m + k)) 6 (hl 0 4) 1) 7)) dX12_late_96 (hM4.c12) (by omega) (by decide) ?_
        have hM5 := hM4.e12 (hl 0 4) 0 (by omega)
        refine x_aload_n dX12_late_97 3 rfl ?_
        refine x_get (v := .ref (y + 13)) dX12_late_98 fX12_46 (hM5.1) rfl ?_
        refine x_pc (pc' := 101) rfl ?_
        refine x_iload_n dX12_late_101 2 rfl ?_
        refine x_iconst dX12_late_102 ki_0 ?_
        refine x_iastN (n := 7) (f := blk r 21 7) dX12_late_103 (hM5.c13) (by omega) (by decide) ?_
        have hM6 := hM5.s13 (hl 0 4) (nI 0) (by omega)
        have e21 : upd r (21 + hl 0 4) (nI 0) = r := f_at h0
        have hNl := hM6
        rw [e21, late_x hlx] at hNl
        have hLo := late_hall (s := s) (c := m + k) hO hs (by omega) h7
        have hLr := late_row (s := s) (c := m + k) hrow h0
        refine x_aload_n dX12_late_104 3 rfl ?_
        refine x_sipush dX12_late_105 ks_400 ?_
        refine x_cVe (N := mX12_goFor) (d' := 8) (mc := 0) (ms := 0) (cb := 0) (sb := 0) (As := [.int (nI 400)]) (st := []) dX12_late_108 mX12_goFor_v lX12_444 rfl rfl (hNl.1) rfl (by decide) (Nat.le_of_ble_eq_true rfl) (Md_goFor hNl hLo hV hLr (by decide)) rfl (sf := fun e2 => []) (fun _ => rfl) (fun e2 hq2 => ?_)
        obtain ⟨⟨w2, k2⟩, G2⟩ := e2
        have hN2 : MW G0 G2 y (lateH hl s (m + k)) (goN (lateH hl s (m + k)) rv r 400) sc A Fx w2 k2 := hq2
        refine x_aload_n dX12_late_111 3 rfl ?_
        refine x_get (v := .ref (y + 13)) dX12_late_112 fX12_46 (hN2.1) rfl ?_
        refine x_iload_n dX12_late_115 2 rfl ?_
        refine x_ialdN (n := 7) (f := blk (goN (lateH hl s (m + k)) rv r 400) 21 7) dX12_late_116 (hN2.c13) (by omega) (by decide) ?_
        refine x_topi (y := (goN (lateH hl s (m + k)) rv r 400) (21 + (hl 0 4))) (blk_at (by omega)) ?_
        refine x_pc (pc' := 117) rfl ?_
        refine x_iconst dX12_late_117 ki_3 ?_
        refine x_icmp_ne (x := (goN (lateH hl s (m + k)) rv r 400) (21 + (hl 0 4))) (y := nI 3) (tgt := 126) dX12_late_118 (by decide) (fun c118 => ?_) (fun c118 => ?_)
        · refine x_bipush dX12_late_126 kb_m2 ?_
          refine x_istore_n (ls' := [(3, .int (-2)), (4, .int (nI (m + k))), (2, .int (nI (hl 0 4))), (0, .ref y), (1, .int (nI s))]) dX12_late_128 (by decide) rfl ?_
          refine x_aload_n dX12_late_129 3 rfl ?_
          refine x_cVe (N := mX12_laysBack) (d' := 2) (mc := 0) (ms := 0) (cb := 0) (sb := 0) (As := []) (st := []) dX12_late_130 mX12_laysBack_v lX12_450 rfl rfl (hN2.1) rfl (by decide) (Nat.le_of_ble_eq_true rfl) (Md_laysBack hN2 hk hb) rfl (sf := fun G3 => []) (fun _ => rfl) (fun G3 hN3 => ?_)
          refine x_iinc (v := nI (m + k) + (-1)) (ls' := [(4, .int (nI (m + k) + (-1))), (3, .int (-2)), (2, .int (nI (hl 0 4))), (0, .ref y), (1, .int (nI s))]) dX12_late_133 1 rfl (by rw [ki_m1]) (by decide) rfl ?_
          refine x_goto (tgt := 41) dX12_late_136 (by decide) ?_
          have htg : till (lateH hl s (m + k)) rv (hl 0 4) 400 r (21 + hl 0 4) = goN (lateH hl s (m + k)) rv r 400 (21 + hl 0 4) := till_go hLo (by rw [lateH_0]; simp) 400 hLr
          have hr2 : lateF hl rv r s m k = R := by rw [← hr]; show _ = (if till (lateH hl s (m + k)) rv (hl 0 4) 400 r (21 + hl 0 4) = 3 then _ else _); rw [htg]; exact (if_neg c118).symm
          exact ih _ _ (cF Fx 1 3650) _ _ _ (by omega) (late_u m k (by omega)) (by omega) hr2 (late_lx (s := s) (c := m + k) hb (by omega)) (hfs.tr ⟨rfl, rfl, rfl, rfl⟩) hN3
        · have htg : till (lateH hl s (m + k)) rv (hl 0 4) 400 r (21 + hl 0 4) = goN (lateH hl s (m + k)) rv r 400 (21 + hl 0 4) := till_go hLo (by rw [lateH_0]; simp) 400 hLr
          have hR : R = nI (m + k) := by rw [← hr]; show (if till (lateH hl s (m + k)) rv (hl 0 4) 400 r (21 + hl 0 4) = 3 then _ else _) = _; rw [htg]; exact if_pos c118
          have hne2 : ¬ nI (m + k) = -2 := fun q0 => by have e2 := congrArg Int32.toInt q0; rw [nI_toInt (by omega)] at e2; have : ((-2 : Int32)).toInt = -2 := (by decide); omega
          refine x_iload dX12_late_121 0 rfl ?_
          refine x_goto (tgt := 128) dX12_late_123 (by decide) ?_
          refine x_istore_n (ls' := [(3, .int (nI (m + k))), (4, .int (nI (m + k))), (2, .int (nI (hl 0 4))), (0, .ref y), (1, .int (nI s))]) dX12_late_128 (by decide) rfl ?_
          refine x_aload_n dX12_late_129 3 rfl ?_
          refine x_cVe (N := mX12_laysBack) (d' := 2) (mc := 0) (ms := 0) (cb := 0) (sb := 0) (As := []) (st := []) dX12_late_130 mX12_laysBack_v lX12_450 rfl rfl (hN2.1) rfl (by decide) (Nat.le_of_ble_eq_true rfl) (Md_laysBack hN2 hk hb) rfl (sf := fun G3 => []) (fun _ => rfl) (fun G3 hN3 => ?_)
          refine x_iinc (v := nI (m + k) + (-1)) (ls' := [(4, .int (nI (m + k) + (-1))), (3, .int (nI (m + k))), (2, .int (nI (hl 0 4))), (0, .ref y), (1, .int (nI s))]) dX12_late_133 1 rfl (by rw [ki_m1]) (by decide) rfl ?_
          refine x_goto (tgt := 41) dX12_late_136 (by decide) ?_
          refine x_iload dX12_late_41 0 rfl ?_
          refine x_pc (pc' := 43) rfl ?_
          refine x_aload_n dX12_late_43 3 rfl ?_
          refine x_get (v := .ref (y + 1)) dX12_late_44 fX12_9 (hN3.1) rfl ?_
          refine x_iconst dX12_late_47 ki_5 ?_
          refine x_ialdN (n := 9) (f := scal (lbH hl (lateH hl s (m + k))) r sc) dX12_late_48 (hN3.c1) (by decide) (by decide) ?_
          refine x_topi (y := r 0) rfl ?_
          refine x_icmp_lt (x := nI (m + k) + (-1)) (y := r 0) (tgt := 139) dX12_late_49 (by decide) (fun c49 => ?_) (fun c49 => ?_)
          · refine x_iload_n dX12_late_139 1 rfl ?_
            exact x_iret dX12_late_140 rfl (xEx_i ((lbH hl (lateH hl s (m + k)), cF Fx 1 3650), (w2, k2), G3) ⟨hN3, late_lx (s := s) (c := m + k) hb (by omega), hfs.tr ⟨rfl, rfl, rfl, rfl⟩⟩ (by rw [hR]) rfl rfl)
          · refine x_iload_n dX12_late_52 1 rfl ?_
            refine x_bipush dX12_late_53 kb_m2 ?_
            refine x_icmp_ne (x := nI (m + k)) (y := (-2)) (tgt := 139) dX12_late_55 (by decide) (fun c55 => ?_) (fun c55 => ?_)
            · refine x_iload_n dX12_late_139 1 rfl ?_
              exact x_iret dX12_late_140 rfl (xEx_i ((lbH hl (lateH hl s (m + k)), cF Fx 1 3650), (w2, k2), G3) ⟨hN3, late_lx (s := s) (c := m + k) hb (by omega), hfs.tr ⟨rfl, rfl, rfl, rfl⟩⟩ (by rw [hR]) rfl rfl)
            · exact absurd c55 hne2
theorem Md_late_y {K : xG} {h y : Nat} {G0 G : xHp} {hl : xHl} {r : xRw} {sc : Nat × Nat × Int32} {A : Nat → Nat → Int32} {F : Nat → Int32} {wa sa : Nat → Int64} {s m : Nat} (hM : MW G0 G y hl r sc A F wa sa) {rv : Option (List Nat)} (hO : HallOk hl) (hV : RvR A sc rv) (hrow : RowOk hl r) (hs : s < hl 0 2) (h7 : hl 0 4 < 7) (hm : r 0 = nI m) (hm9 : m ≤ 999) (h0 : r (21 + hl 0 4) = 0) : xCall K mX12_late 9 0 0 [.ref y, .int (nI s)] h G (mdK G0 h y (some (.int (lateF hl rv r s m (hl 0 0 + 1 - m)))) hl r sc A F) := by
  refine x_entry (by decide) (ls := [(0, .ref y), (1, .int (nI s))]) rfl (Nat.le_of_ble_eq_true rfl) ?_
  have hB := hM.hB
  obtain ⟨o2, o3, o4, o5, o6, o7, o8, o9⟩ := id hO
  refine x_aload_n dX12_late_0 0 rfl ?_
  refine x_iload_n dX12_late_1 1 rfl ?_
  refine x_cV (N := mX12_isSort) (d' := 1) (mc := 0) (ms := 0) (cb := 0) (sb := 0) (As := [.int (nI s)]) (st := []) dX12_late_2 mX12_isSort_v lX12_367 rfl rfl (hM.1) rfl (by decide) (Nat.le_of_ble_eq_true rfl) (Md_isSort hM) rfl (st1 := [.int (bI (inR (nI s) (hl 0 2)))]) rfl ?_
  refine x_ifB_ne (tgt := 10) dX12_late_5 (by decide) (fun c5 => ?_) (fun c5 => ?_)
  · refine x_aload_n dX12_late_10 0 rfl ?_
    refine x_get (v := .ref (y + 1)) dX12_late_11 fX12_9 (hM.1) rfl ?_
    refine x_iconst dX12_late_14 ki_4 ?_
    refine x_ialdN (n := 9) (f := scal hl r sc) dX12_late_15 (hM.c1) (by decide) (by decide) ?_
    refine x_topi (y := nI (hl 0 4)) rfl ?_
    refine x_istore_n (ls' := [(2, .int (nI (hl 0 4))), (0, .ref y), (1, .int (nI s))]) dX12_late_16 (by decide) rfl ?_
    refine x_pc (pc' := 17) rfl ?_
    refine x_iload_n dX12_late_17 0 rfl ?_
    refine x_bipush dX12_late_18 kb_7 ?_
    refine x_icmpN_ne (tgt := 26) dX12_late_20 (by decide) (by omega) (by omega) (fun c20 => ?_) (fun c20 => ?_)
    · refine x_aload_n dX12_late_26 1 rfl ?_
      refine x_cVe (N := mX12_keepsAll) (d' := 2) (mc := 0) (ms := 0) (cb := 0) (sb := 0) (As := []) (st := []) dX12_late_27 mX12_keepsAll_v lX12_441 rfl rfl (hM.1) rfl (by decide) (Nat.le_of_ble_eq_true rfl) (Md_keepsAll hM) rfl (sf := fun G1 => []) (fun _ => rfl) (fun G1 hN1 => ?_)
      refine x_bipush dX12_late_30 kb_m2 ?_
      refine x_istore_n (ls' := [(3, .int (-2)), (2, .int (nI (hl 0 4))), (0, .ref y), (1, .int (nI s))]) dX12_late_32 (by decide) rfl ?_
      refine x_aload_n dX12_late_33 2 rfl ?_
      refine x_get (v := .ref (y + 1)) dX12_late_34 fX12_9 (hN1.1) rfl ?_
      refine x_iconst dX12_late_37 ki_0 ?_
      refine x_pc (pc' := 38) rfl ?_
      refine x_ialdN (n := 9) (f := scal hl r sc) dX12_late_38 (hN1.c1) (by decide) (by decide) ?_
      refine x_topi (y := nI (hl 0 0)) rfl ?_
      refine x_istore (ls' := [(4, .int (nI (hl 0 0))), (3, .int (-2)), (2, .int (nI (hl 0 4))), (0, .ref y), (1, .int (nI s))]) dX12_late_39 (by decide) rfl ?_
      refine x_post (fun v h2 G9 hq => ?_) (Md_late_loop (A := (setA A 44 (svI (ovr A hl r sc) 3600 9))) (F := cF F 0 3650) (Kept_sv (A := A)) hB hO (hV.set (by omega)) hrow hs h7 hm hm9 h0 (hl 0 0 + 1 - m) (nI (hl 0 0)) hl (cF F 0 3650) wa sa G1 (by omega) ?_ (by omega) rfl (LX.rf hB) FS.rf hN1)
      · obtain ⟨⟨⟨hx9, F9⟩, ⟨w9, k9⟩, G8⟩, ⟨hq1, hq5, hq6⟩, hq2, hq3, hq4⟩ := hq
        exact ⟨((hx9, (setA A 44 (svI (ovr A hl r sc) 3600 9)), F9), (w9, k9), G8), ⟨hq1, hq5, AS.kp, FS.tr ⟨rfl, rfl, rfl, rfl⟩ hq6⟩, hq2, hq3, hq4⟩
      · by_cases e : m ≤ hl 0 0
        · exact Or.inr ⟨hl 0 0 - m, by omega, by rw [show m + (hl 0 0 - m) = hl 0 0 by omega]⟩
        · exact Or.inl ⟨by omega, nI_lt (by omega) (by omega)⟩
    · exact absurd c20 (by omega)
  · exact absurd c5 (by rw [inR_nI (by omega), decide_eq_true hs]; decide)
