theorem Md_in {K : xG} {h : Nat} {G : xHp} {v lo hi : Int64} : xCall K mX12_in 0 0 0 [.long v, .long lo, .long hi] h G (xRet (some (.int (bI (decide (lo ≤ v ∧ v ≤ hi))))) h G) := by
  refine x_entry (by decide) (ls := [(0, .long v), (2, .long lo), (4, .long hi)]) rfl (Nat.le_of_ble_eq_true rfl) ?_
  refine x_lload_n dX12_in_0 0 rfl ?_
  refine x_lload_n dX12_in_1 1 rfl ?_
  refine x_lcmp dX12_in_2 ?_
  refine x_if_lt (tgt := 17) dX12_in_3 (by decide) (fun c3 => ?_) (fun c3 => ?_)
  · refine x_iconst dX12_in_17 ki_0 ?_
    exact x_zret dX12_in_18 rfl (by first | rfl | decide | exact bI_nar _) (xRet_e (by rw [decide_eq_false (fun q => absurd q.1 (Int64.not_le.mpr ((lg_cmp_lt _ _).mp c3)))]; rfl) rfl)
  · refine x_lload_n dX12_in_6 0 rfl ?_
    refine x_lload dX12_in_7 2 rfl ?_
    refine x_lcmp dX12_in_9 ?_
    refine x_if_gt (tgt := 17) dX12_in_10 (by decide) (fun c10 => ?_) (fun c10 => ?_)
    · refine x_iconst dX12_in_17 ki_0 ?_
      refine x_pc (pc' := 18) rfl ?_
      exact x_zret dX12_in_18 rfl (by first | rfl | decide | exact bI_nar _) (xRet_e (by rw [decide_eq_false (fun q => absurd q.2 (Int64.not_le.mpr ((lg_cmp_gt _ _).mp c10)))]; rfl) rfl)
    · refine x_iconst dX12_in_13 ki_1 ?_
      refine x_pc (pc' := 14) rfl ?_
      refine x_goto (tgt := 18) dX12_in_14 (by decide) ?_
      exact x_zret dX12_in_18 rfl (by first | rfl | decide | exact bI_nar _) (xRet_e (by rw [decide_eq_true ⟨Int64.not_lt.mp (fun q => c3 ((lg_cmp_lt _ _).mpr q)), Int64.not_lt.mp (fun q => c10 ((lg_cmp_gt _ _).mpr q))⟩]; rfl) rfl)
theorem Md_isHall {K : xG} {h y : Nat} {G0 G : xHp} {hl : xHl} {r : xRw} {sc : Nat × Nat × Int32} {A : Nat → Nat → Int32} {F : Nat → Int32} {wa sa : Nat → Int64} (hM : MW G0 G y hl r sc A F wa sa) : xCall K mX12_isHall 0 0 0 [.ref y] h G (xRet (some (.int (bI (decide (0 < hl 0 0))))) h G) := by
  refine x_entry (by decide) (ls := [(0, .ref y)]) rfl (Nat.le_of_ble_eq_true rfl) ?_
  have hB := hM.hB
  refine x_aload_n dX12_isHall_0 0 rfl ?_
  refine x_get (v := .ref (y + 1)) dX12_isHall_1 fX12_9 (hM.1) rfl ?_
  refine x_iconst dX12_isHall_4 ki_0 ?_
  refine x_ialdN (n := 9) (f := scal hl r sc) dX12_isHall_5 (hM.c1) (by decide) (by decide) ?_
  refine x_topi (y := nI (hl 0 0)) rfl ?_
  refine x_ifN_le (tgt := 13) dX12_isHall_6 (by decide) (by have := hB 0 0; have := hB 0 2; have := hB 0 3; have := hB 0 4; omega) (fun c6 => ?_) (fun c6 => ?_)
  · refine x_iconst dX12_isHall_13 ki_0 ?_
    exact x_zret dX12_isHall_14 rfl (by first | rfl | decide | exact bI_nar _) (xRet_e (by rw [decide_eq_false (by omega)]; rfl) rfl)
  · refine x_iconst dX12_isHall_9 ki_1 ?_
    refine x_goto (tgt := 14) dX12_isHall_10 (by decide) ?_
    exact x_zret dX12_isHall_14 rfl (by first | rfl | decide | exact bI_nar _) (xRet_e (by rw [decide_eq_true c6]; rfl) rfl)
theorem Md_isSort {K : xG} {h y : Nat} {G0 G : xHp} {hl : xHl} {r : xRw} {sc : Nat × Nat × Int32} {A : Nat → Nat → Int32} {F : Nat → Int32} {wa sa : Nat → Int64} {v : Int32} (hM : MW G0 G y hl r sc A F wa sa) : xCall K mX12_isSort 1 0 0 [.ref y, .int v] h G (xRet (some (.int (bI (inR v (hl 0 2))))) h G) := by
  refine x_entry (by decide) (ls := [(0, .ref y), (1, .int v)]) rfl (Nat.le_of_ble_eq_true rfl) ?_
  have hB := hM.hB
  refine x_iload_n dX12_isSort_0 1 rfl ?_
  refine x_i2l dX12_isSort_1 ?_
  refine x_lconst (v := 0) dX12_isSort_2 rfl ?_
  refine x_aload_n dX12_isSort_3 0 rfl ?_
  refine x_get (v := .ref (y + 1)) dX12_isSort_4 fX12_9 (hM.1) rfl ?_
  refine x_iconst dX12_isSort_7 ki_2 ?_
  refine x_ialdN (n := 9) (f := scal hl r sc) dX12_isSort_8 (hM.c1) (by decide) (by decide) ?_
  refine x_topi (y := nI (hl 0 2)) rfl ?_
  refine x_iconst dX12_isSort_9 ki_1 ?_
  refine x_isub dX12_isSort_10 ?_
  refine x_pc (pc' := 11) rfl ?_
  refine x_i2l dX12_isSort_11 ?_
  refine x_cS (N := mX12_in) (d' := 0) (mc := 0) (ms := 0) (cb := 0) (sb := 0) (As := [.long v.toInt64, .long 0, .long (((nI (hl 0 2)) - (nI 1)).toInt64)]) (st := []) dX12_isSort_12 mX12_in_s lX12_155 rfl (by decide) (Nat.le_of_ble_eq_true rfl) (Md_in) rfl (st1 := [.int (bI (decide (0 ≤ v.toInt64 ∧ v.toInt64 ≤ ((nI (hl 0 2)) - (nI 1)).toInt64)))]) rfl ?_
  exact x_zret dX12_isSort_15 rfl (by first | rfl | decide | exact bI_nar _) (xRet_e (by rw [← in_R v (hB 0 2)]) rfl)
theorem Md_isMender {K : xG} {h y : Nat} {G0 G : xHp} {hl : xHl} {r : xRw} {sc : Nat × Nat × Int32} {A : Nat → Nat → Int32} {F : Nat → Int32} {wa sa : Nat → Int64} {v : Int32} (hM : MW G0 G y hl r sc A F wa sa) : xCall K mX12_isMender 1 0 0 [.ref y, .int v] h G (xRet (some (.int (bI (inR v (hl 0 3))))) h G) := by
  refine x_entry (by decide) (ls := [(0, .ref y), (1, .int v)]) rfl (Nat.le_of_ble_eq_true rfl) ?_
  have hB := hM.hB
  refine x_iload_n dX12_isMender_0 1 rfl ?_
  refine x_i2l dX12_isMender_1 ?_
  refine x_lconst (v := 0) dX12_isMender_2 rfl ?_
  refine x_aload_n dX12_isMender_3 0 rfl ?_
  refine x_get (v := .ref (y + 1)) dX12_isMender_4 fX12_9 (hM.1) rfl ?_
  refine x_iconst dX12_isMender_7 ki_3 ?_
  refine x_ialdN (n := 9) (f := scal hl r sc) dX12_isMender_8 (hM.c1) (by decide) (by decide) ?_
  refine x_topi (y := nI (hl 0 3)) rfl ?_
  refine x_iconst dX12_isMender_9 ki_1 ?_
  refine x_isub dX12_isMender_10 ?_
  refine x_pc (pc' := 11) rfl ?_
  refine x_i2l dX12_isMender_11 ?_
  refine x_cS (N := mX12_in) (d' := 0) (mc := 0) (ms := 0) (cb := 0) (sb := 0) (As := [.long v.toInt64, .long 0, .long (((nI (hl 0 3)) - (nI 1)).toInt64)]) (st := []) dX12_isMender_12 mX12_in_s lX12_155 rfl (by decide) (Nat.le_of_ble_eq_true rfl) (Md_in) rfl (st1 := [.int (bI (decide (0 ≤ v.toInt64 ∧ v.toInt64 ≤ ((nI (hl 0 3)) - (nI 1)).toInt64)))]) rfl ?_
  exact x_zret dX12_isMender_15 rfl (by first | rfl | decide | exact bI_nar _) (xRet_e (by rw [← in_R v (hB 0 3)]) rfl)
theorem Md_isThing {K : xG} {h y : Nat} {G0 G : xHp} {hl : xHl} {r : xRw} {sc : Nat × Nat × Int32} {A : Nat → Nat → Int32} {F : Nat → Int32} {wa sa : Nat → Int64} {v : Int32} (hM : MW G0 G y hl r sc A F wa sa) : xCall K mX12_isThing 1 0 0 [.ref y, .int v] h G (xRet (some (.int (bI (inR v (hl 0 4))))) h G) := by
  refine x_entry (by decide) (ls := [(0, .ref y), (1, .int v)]) rfl (Nat.le_of_ble_eq_true rfl) ?_
  have hB := hM.hB
  refine x_iload_n dX12_isThing_0 1 rfl ?_
  refine x_i2l dX12_isThing_1 ?_
  refine x_lconst (v := 0) dX12_isThing_2 rfl ?_
  refine x_aload_n dX12_isThing_3 0 rfl ?_
  refine x_get (v := .ref (y + 1)) dX12_isThing_4 fX12_9 (hM.1) rfl ?_
  refine x_iconst dX12_isThing_7 ki_4 ?_
  refine x_ialdN (n := 9) (f := scal hl r sc) dX12_isThing_8 (hM.c1) (by decide) (by decide) ?_
  refine x_topi (y := nI (hl 0 4)) rfl ?_
  refine x_iconst dX12_isThing_9 ki_1 ?_
  refine x_isub dX12_isThing_10 ?_
  refine x_pc (pc' := 11) rfl ?_
  refine x_i2l dX12_isThing_11 ?_
  refine x_cS (N := mX12_in) (d' := 0) (mc := 0) (ms := 0) (cb := 0) (sb := 0) (As := [.long v.toInt64, .long 0, .long (((nI (hl 0 4)) - (nI 1)).toInt64)]) (st := []) dX12_isThing_12 mX12_in_s lX12_155 rfl (by decide) (Nat.le_of_ble_eq_true rfl) (Md_in) rfl (st1 := [.int (bI (decide (0 ≤ v.toInt64 ∧ v.toInt64 ≤ ((nI (hl 0 4)) - (nI 1)).toInt64)))]) rfl ?_
  exact x_zret dX12_isThing_15 rfl (by first | rfl | decide | exact bI_nar _) (xRet_e (by rw [← in_R v (hB 0 4)]) rfl)
theorem Md_isFree {K : xG} {h y : Nat} {G0 G : xHp} {hl : xHl} {r : xRw} {sc : Nat × Nat × Int32} {A : Nat → Nat → Int32} {F : Nat → Int32} {wa sa : Nat → Int64} {v : Int32} (hM : MW G0 G y hl r sc A F wa sa) (h3 : hl 0 3 ≤ 4) : xCall K mX12_isFree 2 0 0 [.ref y, .int v] h G (xRet (some (.int (bI (inR v (hl 0 3) && decide (r (5 + thN v) = -1))))) h G) := by
  refine x_entry (by decide) (ls := [(0, .ref y), (1, .int v)]) rfl (Nat.le_of_ble_eq_true rfl) ?_
  have hB := hM.hB
  refine x_aload_n dX12_isFree_0 0 rfl ?_
  refine x_iload_n dX12_isFree_1 1 rfl ?_
  refine x_cV (N := mX12_isMender) (d' := 1) (mc := 0) (ms := 0) (cb := 0) (sb := 0) (As := [.int v]) (st := []) dX12_isFree_2 mX12_isMender_v lX12_364 rfl rfl (hM.1) rfl (by decide) (Nat.le_of_ble_eq_true rfl) (Md_isMender hM) rfl (st1 := [.int (bI (inR v (hl 0 3)))]) rfl ?_
  refine x_ifB_eq (tgt := 22) dX12_isFree_5 (by decide) (fun c5 => ?_) (fun c5 => ?_)
  · refine x_iconst dX12_isFree_22 ki_0 ?_
    exact x_zret dX12_isFree_23 rfl (by first | rfl | decide | exact bI_nar _) (xRet_e (by rw [c5]; rfl) rfl)
  · have hc5 := c5
    obtain ⟨q, hq, hv⟩ := inR_of c5
    have hq1 := thN_nI (t := q) (by omega)
    subst hv
    refine x_aload_n dX12_isFree_8 0 rfl ?_
    refine x_get (v := .ref (y + 5)) dX12_isFree_9 fX12_22 (hM.1) rfl ?_
    refine x_iload_n dX12_isFree_12 1 rfl ?_
    refine x_ialdN (n := 4) (f := blk r 5 4) dX12_isFree_13 (hM.c5) (by omega) (by decide) ?_
    refine x_topi (y := r (5 + q)) (blk_at (by omega)) ?_
    refine x_iconst dX12_isFree_14 ki_m1 ?_
    refine x_pc (pc' := 15) rfl ?_
    refine x_icmp_ne (x := r (5 + q)) (y := (-1)) (tgt := 22) dX12_isFree_15 (by decide) (fun c15 => ?_) (fun c15 => ?_)
    · refine x_iconst dX12_isFree_22 ki_0 ?_
      exact x_zret dX12_isFree_23 rfl (by first | rfl | decide | exact bI_nar _) (xRet_e (by rw [hc5, hq1, decide_eq_false c15]; rfl) rfl)
    · refine x_iconst dX12_isFree_18 ki_1 ?_
      refine x_goto (tgt := 23) dX12_isFree_19 (by decide) ?_
      exact x_zret dX12_isFree_23 rfl (by first | rfl | decide | exact bI_nar _) (xRet_e (by rw [hc5, hq1, decide_eq_true c15]; rfl) rfl)
theorem Md_canTake {K : xG} {h y : Nat} {G0 G : xHp} {hl : xHl} {r : xRw} {sc : Nat × Nat × Int32} {A : Nat → Nat → Int32} {F : Nat → Int32} {wa sa : Nat → Int64} {q t : Nat} (hM : MW G0 G y hl r sc A F wa sa) (hq : q < 4) (ht : t < 7) (hs : hl 4 t < 4) : xCall K mX12_canTake 0 0 0 [.ref y, .int (nI q), .int (nI t)] h G (xRet (some (.int (bI (canT hl r q t)))) h G) := by
  refine x_entry (by decide) (ls := [(0, .ref y), (1, .int (nI q)), (2, .int (nI t))]) rfl (Nat.le_of_ble_eq_true rfl) ?_
  have hB := hM.hB
  have b3 := hB 3 (q * 4 + hl 4 t)
  have b7 := hB 7 t
  refine x_aload_n dX12_canTake_0 0 rfl ?_
  refine x_get (v := .ref (y + 9)) dX12_canTake_1 fX12_34 (hM.1) rfl ?_
  refine x_iload_n dX12_canTake_4 2 rfl ?_
  refine x_ialdN (n := 7) (f := nF (hl 4)) dX12_canTake_5 (hM.c9) (by omega) (by decide) ?_
  refine x_istore_n (ls' := [(3, .int (nI (hl 4 t))), (0, .ref y), (1, .int (nI q)), (2, .int (nI t))]) dX12_canTake_6 (by decide) rfl ?_
  refine x_aload_n dX12_canTake_7 1 rfl ?_
  refine x_get (v := .ref (y + 13)) dX12_canTake_8 fX12_46 (hM.1) rfl ?_
  refine x_iload_n dX12_canTake_11 3 rfl ?_
  refine x_ialdN (n := 7) (f := blk r 21 7) dX12_canTake_12 (hM.c13) (by omega) (by decide) ?_
  refine x_topi (y := r (21 + t)) (blk_at (by omega)) ?_
  refine x_pc (pc' := 13) rfl ?_
  refine x_iconst dX12_canTake_13 ki_1 ?_
  refine x_icmp_ne (x := r (21 + t)) (y := nI 1) (tgt := 53) dX12_canTake_14 (by decide) (fun c14 => ?_) (fun c14 => ?_)
  · refine x_iconst dX12_canTake_53 ki_0 ?_
    exact x_zret dX12_canTake_54 rfl (by first | rfl | decide | exact bI_nar _) (xRet_e (by rw [show canT hl r q t = false from decide_eq_false (fun e => c14 e.1)]; rfl) rfl)
  · refine x_aload_n dX12_canTake_17 1 rfl ?_
    refine x_get (v := .ref (y + 4)) dX12_canTake_18 fX12_19 (hM.1) rfl ?_
    refine x_iconst dX12_canTake_21 ki_4 ?_
    refine x_iload_n dX12_canTake_22 2 rfl ?_
    refine x_imulN dX12_canTake_23 ?_
    refine x_iload_n dX12_canTake_24 0 rfl ?_
    refine x_iaddN dX12_canTake_25 ?_
    refine x_ialdN (n := 16) (f := fun j => skJ (hl 3 j)) dX12_canTake_26 (hM.c4) (by omega) (by decide) ?_
    refine x_topi (y := skJ (hl 3 (q * 4 + hl 4 t))) (by rw [Nat.mul_comm 4 q]) ?_
    refine x_pc (pc' := 27) rfl ?_
    refine x_iconst dX12_canTake_27 ki_m1 ?_
    refine x_icmp_eq (x := skJ (hl 3 (q * 4 + hl 4 t))) (y := (-1)) (tgt := 53) dX12_canTake_28 (by decide) (fun c28 => ?_) (fun c28 => ?_)
    · refine x_iconst dX12_canTake_53 ki_0 ?_
      exact x_zret dX12_canTake_54 rfl (by first | rfl | decide | exact bI_nar _) (xRet_e (by rw [show canT hl r q t = false from decide_eq_false (fun e => (skJ_ne (by omega)).mpr e.2.1 c28)]; rfl) rfl)
    · refine x_aload_n dX12_canTake_31 1 rfl ?_
      refine x_get (v := .ref (y + 12)) dX12_canTake_32 fX12_43 (hM.1) rfl ?_
      refine x_iload_n dX12_canTake_35 3 rfl ?_
      refine x_ialdN (n := 7) (f := nF (hl 7)) dX12_canTake_36 (hM.c12) (by omega) (by decide) ?_
      refine x_ifN_eq (tgt := 49) dX12_canTake_37 (by decide) (by omega) (fun c37 => ?_) (fun c37 => ?_)
      · refine x_iconst dX12_canTake_49 ki_1 ?_
        refine x_goto (tgt := 54) dX12_canTake_50 (by decide) ?_
        exact x_zret dX12_canTake_54 rfl (by first | rfl | decide | exact bI_nar _) (xRet_e (by rw [show canT hl r q t = true from decide_eq_true ⟨c14, (skJ_ne (by omega)).mp c28, Or.inl c37⟩]; rfl) rfl)
      · refine x_aload_n dX12_canTake_40 1 rfl ?_
        refine x_get (v := .ref (y + 3)) dX12_canTake_41 fX12_16 (hM.1) rfl ?_
        refine x_iload_n dX12_canTake_44 0 rfl ?_
        refine x_pc (pc' := 45) rfl ?_
        refine x_ialdN (n := 4) (f := blk r 1 4) dX12_canTake_45 (hM.c3) (by omega) (by decide) ?_
        refine x_topi (y := r (1 + (hl 4 t))) (blk_at (by omega)) ?_
        refine x_if_le (tgt := 53) dX12_canTake_46 (by decide) (fun c46 => ?_) (fun c46 => ?_)
        · refine x_iconst dX12_canTake_53 ki_0 ?_
          exact x_zret dX12_canTake_54 rfl (by first | rfl | decide | exact bI_nar _) (xRet_e (by rw [show canT hl r q t = false from decide_eq_false (fun e => e.2.2.elim c37 (Int32.not_lt.mpr c46))]; rfl) rfl)
        · refine x_iconst dX12_canTake_49 ki_1 ?_
          refine x_goto (tgt := 54) dX12_canTake_50 (by decide) ?_
          exact x_zret dX12_canTake_54 rfl (by first | rfl | decide | exact bI_nar _) (xRet_e (by rw [show canT hl r q t = true from decide_eq_true ⟨c14, (skJ_ne (by omega)).mp c28, Or.inr (Int32.not_le.mp c46)⟩]; rfl) rfl)
theorem Md_lasts {K : xG} {h y : Nat} {G0 G : xHp} {hl : xHl} {r : xRw} {sc : Nat × Nat × Int32} {A : Nat → Nat → Int32} {F : Nat → Int32} {wa sa : Nat → Int64} {q t : Nat} (hM : MW G0 G y hl r sc A F wa sa) (hq : q < 4) (ht : t < 7) (hs : hl 4 t < 4) (hk : 0 < hl 3 (q * 4 + hl 4 t)) (h9 : hl 3 (q * 4 + hl 4 t) ≠ 999999) : xCall K mX12_lasts 0 0 0 [.ref y, .int (nI q), .int (nI t)] h G (xRet (some (.int (nI (effS hl q t)))) h G) := by
  refine x_entry (by decide) (ls := [(0, .ref y), (1, .int (nI q)), (2, .int (nI t))]) rfl (Nat.le_of_ble_eq_true rfl) ?_
  have hB := hM.hB
  refine x_aload_n dX12_lasts_0 0 rfl ?_
  refine x_get (v := .ref (y + 4)) dX12_lasts_1 fX12_19 (hM.1) rfl ?_
  refine x_iconst dX12_lasts_4 ki_4 ?_
  refine x_iload_n dX12_lasts_5 1 rfl ?_
  refine x_imulN dX12_lasts_6 ?_
  refine x_aload_n dX12_lasts_7 0 rfl ?_
  refine x_get (v := .ref (y + 9)) dX12_lasts_8 fX12_34 (hM.1) rfl ?_
  refine x_iload_n dX12_lasts_11 2 rfl ?_
  refine x_ialdN (n := 7) (f := nF (hl 4)) dX12_lasts_12 (hM.c9) (by omega) (by decide) ?_
  refine x_pc (pc' := 13) rfl ?_
  refine x_iaddN dX12_lasts_13 ?_
  refine x_ialdN (n := 16) (f := fun j => skJ (hl 3 j)) dX12_lasts_14 (hM.c4) (by omega) (by decide) ?_
  refine x_topi (y := nI (hl 3 (q * 4 + hl 4 t))) (by rw [Nat.mul_comm 4 q, skJ_pos hk h9]) ?_
  refine x_aload_n dX12_lasts_15 0 rfl ?_
  refine x_get (v := .ref (y + 2)) dX12_lasts_16 fX12_13 (hM.1) rfl ?_
  refine x_aload_n dX12_lasts_19 0 rfl ?_
  refine x_get (v := .ref (y + 9)) dX12_lasts_20 fX12_34 (hM.1) rfl ?_
  refine x_iload_n dX12_lasts_23 2 rfl ?_
  refine x_ialdN (n := 7) (f := nF (hl 4)) dX12_lasts_24 (hM.c9) (by omega) (by decide) ?_
  refine x_ialdN (n := 4) (f := nF (hl 1)) dX12_lasts_25 (hM.c2) (by omega) (by decide) ?_
  refine x_iaddN dX12_lasts_26 ?_
  refine x_pc (pc' := 27) rfl ?_
  exact x_iret dX12_lasts_27 rfl (xRet_i)
theorem Md_takesIt {K : xG} {h y : Nat} {G0 G : xHp} {hl : xHl} {r : xRw} {sc : Nat × Nat × Int32} {A : Nat → Nat → Int32} {F : Nat → Int32} {wa sa : Nat → Int64} {q t : Nat} (hM : MW G0 G y hl r sc A F wa sa) (hq : q < 4) (ht : t < 7) (hs : hl 4 t < 4) (hk : 0 < hl 3 (q * 4 + hl 4 t)) (h9 : hl 3 (q * 4 + hl 4 t) ≠ 999999) : xCall K mX12_takesIt 1 0 0 [.ref y, .int (nI q), .int (nI t)] h G (mdQ G0 h y none hl (beginR hl r q t) sc A F wa sa) := by
  refine x_entry (by decide) (ls := [(0, .ref y), (1, .int (nI q)), (2, .int (nI t))]) rfl (Nat.le_of_ble_eq_true rfl) ?_
  have hB := hM.hB
  refine x_aload_n dX12_takesIt_0 0 rfl ?_
  refine x_get (v := .ref (y + 3)) dX12_takesIt_1 fX12_16 (hM.1) rfl ?_
  refine x_aload_n dX12_takesIt_4 0 rfl ?_
  refine x_get (v := .ref (y + 9)) dX12_takesIt_5 fX12_34 (hM.1) rfl ?_
  refine x_iload_n dX12_takesIt_8 2 rfl ?_
  refine x_ialdN (n := 7) (f := nF (hl 4)) dX12_takesIt_9 (hM.c9) (by omega) (by decide) ?_
  refine x_dup2 dX12_takesIt_10 rfl rfl ?_
  refine x_ialdN (n := 4) (f := blk r 1 4) dX12_takesIt_11 (hM.c3) (by omega) (by decide) ?_
  refine x_topi (y := r (1 + (hl 4 t))) (blk_at (by omega)) ?_
  refine x_aload_n dX12_takesIt_12 0 rfl ?_
  refine x_pc (pc' := 13) rfl ?_
  refine x_get (v := .ref (y + 12)) dX12_takesIt_13 fX12_43 (hM.1) rfl ?_
  refine x_iload_n dX12_takesIt_16 2 rfl ?_
  refine x_ialdN (n := 7) (f := nF (hl 7)) dX12_takesIt_17 (hM.c12) (by omega) (by decide) ?_
  refine x_isub dX12_takesIt_18 ?_
  refine x_iastN (n := 4) (f := blk r 1 4) dX12_takesIt_19 (hM.c3) (by omega) (by decide) ?_
  have hM1 := hM.s3 (hl 4 t) ((r (1 + (hl 4 t))) - (nI (hl 7 t))) (by omega)
  refine x_aload_n dX12_takesIt_20 0 rfl ?_
  refine x_get (v := .ref (y + 13)) dX12_takesIt_21 fX12_46 (hM1.1) rfl ?_
  refine x_iload_n dX12_takesIt_24 2 rfl ?_
  refine x_iconst dX12_takesIt_25 ki_2 ?_
  refine x_iastN (n := 7) (f := blk (upd r (1 + hl 4 t) ((r (1 + (hl 4 t))) - (nI (hl 7 t)))) 21 7) dX12_takesIt_26 (hM1.c13) (by omega) (by decide) ?_
  have hM2 := hM1.s13 t (nI 2) (by omega)
  refine x_pc (pc' := 27) rfl ?_
  refine x_aload_n dX12_takesIt_27 0 rfl ?_
  refine x_get (v := .ref (y + 5)) dX12_takesIt_28 fX12_22 (hM2.1) rfl ?_
  refine x_iload_n dX12_takesIt_31 1 rfl ?_
  refine x_iload_n dX12_takesIt_32 2 rfl ?_
  refine x_iastN (n := 4) (f := blk (upd (upd r (1 + hl 4 t) ((r (1 + (hl 4 t))) - (nI (hl 7 t)))) (21 + t) (nI 2)) 5 4) dX12_takesIt_33 (hM2.c5) (by omega) (by decide) ?_
  have hM3 := hM2.s5 q (nI t) (by omega)
  refine x_aload_n dX12_takesIt_34 0 rfl ?_
  refine x_get (v := .ref (y + 6)) dX12_takesIt_35 fX12_25 (hM3.1) rfl ?_
  refine x_iload_n dX12_takesIt_38 1 rfl ?_
  refine x_aload_n dX12_takesIt_39 0 rfl ?_
  refine x_iload_n dX12_takesIt_40 1 rfl ?_
  refine x_pc (pc' := 41) rfl ?_
  refine x_iload_n dX12_takesIt_41 2 rfl ?_
  refine x_cV (N := mX12_lasts) (d' := 0) (mc := 0) (ms := 0) (cb := 0) (sb := 0) (As := [.int (nI q), .int (nI t)]) (st := [.int (nI q), .ref (y + 6)]) dX12_takesIt_42 mX12_lasts_v lX12_370 rfl rfl (hM3.1) rfl (by decide) (Nat.le_of_ble_eq_true rfl) (Md_lasts hM3 hq ht hs hk h9) rfl (st1 := [.int (nI (effS hl q t)), .int (nI q), .ref (y + 6)]) rfl ?_
  refine x_iastN (n := 4) (f := blk (upd (upd (upd r (1 + hl 4 t) ((r (1 + (hl 4 t))) - (nI (hl 7 t)))) (21 + t) (nI 2)) (5 + q) (nI t)) 9 4) dX12_takesIt_45 (hM3.c6) (by omega) (by decide) ?_
  have hM4 := hM3.s6 q (nI (effS hl q t)) (by omega)
  exact x_vret dX12_takesIt_46 rfl (xEx_i _ hM4 rfl rfl rfl)
theorem Md_thingsSo_loop {K : xG} {h y : Nat} {G0 G : xHp} {hl : xHl} {r : xRw} {sc : Nat × Nat × Int32} {A : Nat → Nat → Int32} {F : Nat → Int32} {wa sa : Nat → Int64} {v : Int32} (hM : MW G0 G y hl r sc A F wa sa) (h4 : hl 0 4 ≤ 7) : ∀ (k t : Nat), t + k = hl 0 4 → xV K mX12_thingsSo 0 0 0 h G 4 [(3, .int (nI t)), (2, .int (bitsF hl r v t)), (0, .ref y), (1, .int v)] [] (xRet (some (.int (bitsOf hl r v))) h G) := by
  have hB := hM.hB
  intro k
  induction k with
  | zero =>
    intro t hv
    have hv0 : t = hl 0 4 := by omega
    subst hv0
    refine x_iload_n dX12_thingsSo_4 0 rfl ?_
    refine x_aload_n dX12_thingsSo_5 2 rfl ?_
    refine x_get (v := .ref (y + 1)) dX12_thingsSo_6 fX12_9 (hM.1) rfl ?_
    refine x_iconst dX12_thingsSo_9 ki_4 ?_
    refine x_ialdN (n := 9) (f := scal hl r sc) dX12_thingsSo_10 (hM.c1) (by decide) (by decide) ?_
    refine x_topi (y := nI (hl 0 4)) rfl ?_
    refine x_icmpN_ge (tgt := 40) dX12_thingsSo_11 (by decide) (by have := hB 0 0; have := hB 0 2; have := hB 0 3; have := hB 0 4; omega) (by have := hB 0 0; have := hB 0 2; have := hB 0 3; have := hB 0 4; omega) (fun c11 => ?_) (fun c11 => ?_)
    · refine x_iload_n dX12_thingsSo_40 1 rfl ?_
      exact x_iret dX12_thingsSo_41 rfl (xRet_i)
    · exact absurd c11 (by omega)
  | succ k ih =>
    intro t hv
    refine x_iload_n dX12_thingsSo_4 0 rfl ?_
    refine x_aload_n dX12_thingsSo_5 2 rfl ?_
    refine x_get (v := .ref (y + 1)) dX12_thingsSo_6 fX12_9 (hM.1) rfl ?_
    refine x_iconst dX12_thingsSo_9 ki_4 ?_
    refine x_ialdN (n := 9) (f := scal hl r sc) dX12_thingsSo_10 (hM.c1) (by decide) (by decide) ?_
    refine x_topi (y := nI (hl 0 4)) rfl ?_
    refine x_icmpN_ge (tgt := 40) dX12_thingsSo_11 (by decide) (by have := hB 0 0; have := hB 0 2; have := hB 0 3; have := hB 0 4; omega) (by have := hB 0 0; have := hB 0 2; have := hB 0 3; have := hB 0 4; omega) (fun c11 => ?_) (fun c11 => ?_)
    · exact absurd c11 (by omega)
    · refine x_iload_n dX12_thingsSo_14 1 rfl ?_
      refine x_aload_n dX12_thingsSo_15 2 rfl ?_
      refine x_get (v := .ref (y + 13)) dX12_thingsSo_16 fX12_46 (hM.1) rfl ?_
      refine x_pc (pc' := 19) rfl ?_
      refine x_iload_n dX12_thingsSo_19 0 rfl ?_
      refine x_ialdN (n := 7) (f := blk r 21 7) dX12_thingsSo_20 (hM.c13) (by omega) (by decide) ?_
      refine x_topi (y := r (21 + t)) (blk_at (by omega)) ?_
      refine x_iload_n dX12_thingsSo_21 3 rfl ?_
      refine x_icmp_ne (x := r (21 + t)) (y := v) (tgt := 31) dX12_thingsSo_22 (by decide) (fun c22 => ?_) (fun c22 => ?_)
      · refine x_iconst dX12_thingsSo_31 ki_0 ?_
        refine x_ior dX12_thingsSo_32 ?_
        refine x_istore_n (ls' := [(2, .int ((bitsF hl r v t) ||| (nI 0))), (3, .int (nI t)), (0, .ref y), (1, .int v)]) dX12_thingsSo_33 (by decide) rfl ?_
        refine x_iinc (v := nI (t + 1)) (ls' := [(3, .int (nI (t + 1))), (2, .int ((bitsF hl r v t) ||| (nI 0))), (0, .ref y), (1, .int v)]) dX12_thingsSo_34 1 rfl (nIs _) (by decide) rfl ?_
        refine x_goto (tgt := 4) dX12_thingsSo_37 (by decide) ?_
        refine x_leq (ls' := [(3, .int (nI (t + 1))), (2, .int (bitsF hl r v (t + 1))), (0, .ref y), (1, .int v)]) (by rw [show bitsF hl r v (t + 1) = _ from if_neg c22]; rw [or_nl0]) ?_
        exact ih (t + 1) (by omega)
      · refine x_iconst dX12_thingsSo_25 ki_1 ?_
        refine x_iload_n dX12_thingsSo_26 0 rfl ?_
        refine x_ishl dX12_thingsSo_27 ?_
        refine x_goto (tgt := 32) dX12_thingsSo_28 (by decide) ?_
        refine x_ior dX12_thingsSo_32 ?_
        refine x_istore_n (ls' := [(2, .int ((bitsF hl r v t) ||| ((nI 1) <<< ((nI t) &&& 31)))), (3, .int (nI t)), (0, .ref y), (1, .int v)]) dX12_thingsSo_33 (by decide) rfl ?_
        refine x_pc (pc' := 34) rfl ?_
        refine x_iinc (v := nI (t + 1)) (ls' := [(3, .int (nI (t + 1))), (2, .int ((bitsF hl r v t) ||| ((nI 1) <<< ((nI t) &&& 31)))), (0, .ref y), (1, .int v)]) dX12_thingsSo_34 1 rfl (nIs _) (by decide) rfl ?_
        refine x_goto (tgt := 4) dX12_thingsSo_37 (by decide) ?_
        refine x_leq (ls' := [(3, .int (nI (t + 1))), (2, .int (bitsF hl r v (t + 1))), (0, .ref y), (1, .int v)]) (by rw [show bitsF hl r v (t + 1) = _ from if_pos c22]; rfl) ?_
        exact ih (t + 1) (by omega)
theorem Md_thingsSo {K : xG} {h y : Nat} {G0 G : xHp} {hl : xHl} {r : xRw} {sc : Nat × Nat × Int32} {A : Nat → Nat → Int32} {F : Nat → Int32} {wa sa : Nat → Int64} {v : Int32} (hM : MW G0 G y hl r sc A F wa sa) (h4 : hl 0 4 ≤ 7) : xCall K mX12_thingsSo 0 0 0 [.ref y, .int v] h G (xRet (some (.int (bitsOf hl r v))) h G) := by
  refine x_entry (by decide) (ls := [(0, .ref y), (1, .int v)]) rfl (Nat.le_of_ble_eq_true rfl) ?_
  have hB := hM.hB
  refine x_iconst dX12_thingsSo_0 ki_0 ?_
  refine x_istore_n (ls' := [(2, .int (nI 0)), (0, .ref y), (1, .int v)]) dX12_thingsSo_1 (by decide) rfl ?_
  refine x_iconst dX12_thingsSo_2 ki_0 ?_
  refine x_istore_n (ls' := [(3, .int (nI 0)), (2, .int (nI 0)), (0, .ref y), (1, .int v)]) dX12_thingsSo_3 (by decide) rfl ?_
  exact Md_thingsSo_loop hM h4 (hl 0 4) 0 (by omega)
theorem Md_bits_loop {K : xG} {h : Nat} {G : xHp} {v : Int32} : ∀ (k t : Nat), t + k = 16 → xV K mX12_bits 0 0 0 h G 4 [(2, .int (nI t)), (1, .int (btF v t)), (0, .int v)] [] (xRet (some (.int (btF v 16))) h G) := by
  intro k
  induction k with
  | zero =>
    intro t hv
    have hv0 : t = 16 := by omega
    subst hv0
    refine x_iload_n dX12_bits_4 0 rfl ?_
    refine x_bipush dX12_bits_5 kb_16 ?_
    refine x_icmpN_ge (tgt := 24) dX12_bits_7 (by decide) (by omega) (by omega) (fun c7 => ?_) (fun c7 => ?_)
    · refine x_iload_n dX12_bits_24 1 rfl ?_
      exact x_iret dX12_bits_25 rfl (xRet_i)
    · exact absurd c7 (by omega)
  | succ k ih =>
    intro t hv
    refine x_iload_n dX12_bits_4 0 rfl ?_
    refine x_bipush dX12_bits_5 kb_16 ?_
    refine x_icmpN_ge (tgt := 24) dX12_bits_7 (by decide) (by omega) (by omega) (fun c7 => ?_) (fun c7 => ?_)
    · exact absurd c7 (by omega)
    · refine x_iload_n dX12_bits_10 1 rfl ?_
      refine x_iload_n dX12_bits_11 2 rfl ?_
      refine x_iload_n dX12_bits_12 0 rfl ?_
      refine x_ishr dX12_bits_13 ?_
      refine x_iconst dX12_bits_14 ki_1 ?_
      refine x_iand dX12_bits_15 ?_
      refine x_pc (pc' := 16) rfl ?_
      refine x_iadd dX12_bits_16 ?_
      refine x_istore_n (ls' := [(1, .int ((btF v t) + ((v >>> ((nI t) &&& 31)) &&& (nI 1)))), (2, .int (nI t)), (0, .int v)]) dX12_bits_17 (by decide) rfl ?_
      refine x_iinc (v := nI (t + 1)) (ls' := [(2, .int (nI (t + 1))), (1, .int ((btF v t) + ((v >>> ((nI t) &&& 31)) &&& (nI 1)))), (0, .int v)]) dX12_bits_18 1 rfl (nIs _) (by decide) rfl ?_
      refine x_goto (tgt := 4) dX12_bits_21 (by decide) ?_
      exact ih (t + 1) (by omega)
theorem Md_bits {K : xG} {h : Nat} {G : xHp} {v : Int32} : xCall K mX12_bits 0 0 0 [.int v] h G (xRet (some (.int (btF v 16))) h G) := by
  refine x_entry (by decide) (ls := [(0, .int v)]) rfl (Nat.le_of_ble_eq_true rfl) ?_
  refine x_iconst dX12_bits_0 ki_0 ?_
  refine x_istore_n (ls' := [(1, .int (nI 0)), (0, .int v)]) dX12_bits_1 (by decide) rfl ?_
  refine x_iconst dX12_bits_2 ki_0 ?_
  refine x_istore_n (ls' := [(2, .int (nI 0)), (1, .int (nI 0)), (0, .int v)]) dX12_bits_3 (by decide) rfl ?_
  exact Md_bits_loop 16 0 (by omega)
theorem Md_saved_loop {K : xG} {h y : Nat} {G0 G : xHp} {hl : xHl} {r : xRw} {sc : Nat × Nat × Int32} {A : Nat → Nat → Int32} {F : Nat → Int32} {wa sa : Nat → Int64} (hM : MW G0 G y hl r sc A F wa sa) (h4 : hl 0 4 ≤ 7) : ∀ (k t : Nat), t + k = hl 0 4 → xV K mX12_saved 0 0 0 h G 4 [(2, .int (nI t)), (1, .int (savF hl r t)), (0, .ref y)] [] (xRet (some (.int (savedS hl r))) h G) := by
  have hB := hM.hB
  intro k
  induction k with
  | zero =>
    intro t hv
    have hv0 : t = hl 0 4 := by omega
    subst hv0
    refine x_iload_n dX12_saved_4 0 rfl ?_
    refine x_aload_n dX12_saved_5 2 rfl ?_
    refine x_get (v := .ref (y + 1)) dX12_saved_6 fX12_9 (hM.1) rfl ?_
    refine x_iconst dX12_saved_9 ki_4 ?_
    refine x_ialdN (n := 9) (f := scal hl r sc) dX12_saved_10 (hM.c1) (by decide) (by decide) ?_
    refine x_topi (y := nI (hl 0 4)) rfl ?_
    refine x_icmpN_ge (tgt := 43) dX12_saved_11 (by decide) (by have := hB 0 0; have := hB 0 2; have := hB 0 3; have := hB 0 4; omega) (by have := hB 0 0; have := hB 0 2; have := hB 0 3; have := hB 0 4; omega) (fun c11 => ?_) (fun c11 => ?_)
    · refine x_iload_n dX12_saved_43 1 rfl ?_
      exact x_iret dX12_saved_44 rfl (xRet_i)
    · exact absurd c11 (by omega)
  | succ k ih =>
    intro t hv
    refine x_iload_n dX12_saved_4 0 rfl ?_
    refine x_aload_n dX12_saved_5 2 rfl ?_
    refine x_get (v := .ref (y + 1)) dX12_saved_6 fX12_9 (hM.1) rfl ?_
    refine x_iconst dX12_saved_9 ki_4 ?_
    refine x_ialdN (n := 9) (f := scal hl r sc) dX12_saved_10 (hM.c1) (by decide) (by decide) ?_
    refine x_topi (y := nI (hl 0 4)) rfl ?_
    refine x_icmpN_ge (tgt := 43) dX12_saved_11 (by decide) (by have := hB 0 0; have := hB 0 2; have := hB 0 3; have := hB 0 4; omega) (by have := hB 0 0; have := hB 0 2; have := hB 0 3; have := hB 0 4; omega) (fun c11 => ?_) (fun c11 => ?_)
    · exact absurd c11 (by omega)
    · refine x_iload_n dX12_saved_14 1 rfl ?_
      refine x_aload_n dX12_saved_15 2 rfl ?_
      refine x_get (v := .ref (y + 13)) dX12_saved_16 fX12_46 (hM.1) rfl ?_
      refine x_pc (pc' := 19) rfl ?_
      refine x_iload_n dX12_saved_19 0 rfl ?_
      refine x_ialdN (n := 7) (f := blk r 21 7) dX12_saved_20 (hM.c13) (by omega) (by decide) ?_
      refine x_topi (y := r (21 + t)) (blk_at (by omega)) ?_
      refine x_iconst dX12_saved_21 ki_3 ?_
      refine x_icmp_ne (x := r (21 + t)) (y := nI 3) (tgt := 34) dX12_saved_22 (by decide) (fun c22 => ?_) (fun c22 => ?_)
      · refine x_iconst dX12_saved_34 ki_0 ?_
        refine x_iadd dX12_saved_35 ?_
        refine x_istore_n (ls' := [(1, .int ((savF hl r t) + (nI 0))), (2, .int (nI t)), (0, .ref y)]) dX12_saved_36 (by decide) rfl ?_
        refine x_iinc (v := nI (t + 1)) (ls' := [(2, .int (nI (t + 1))), (1, .int ((savF hl r t) + (nI 0))), (0, .ref y)]) dX12_saved_37 1 rfl (nIs _) (by decide) rfl ?_
        refine x_goto (tgt := 4) dX12_saved_40 (by decide) ?_
        refine x_leq (ls' := [(2, .int (nI (t + 1))), (1, .int (savF hl r (t + 1))), (0, .ref y)]) (by rw [show savF hl r (t + 1) = _ from if_neg c22]; rw [add_nl0]) ?_
        exact ih (t + 1) (by omega)
      · refine x_aload_n dX12_saved_25 2 rfl ?_
        refine x_get (v := .ref (y + 11)) dX12_saved_26 fX12_40 (hM.1) rfl ?_
        refine x_iload_n dX12_saved_29 0 rfl ?_
        refine x_ialdN (n := 7) (f := nF (hl 6)) dX12_saved_30 (hM.c11) (by omega) (by decide) ?_
        refine x_goto (tgt := 35) dX12_saved_31 (by decide) ?_
        refine x_iadd dX12_saved_35 ?_
        refine x_pc (pc' := 36) rfl ?_
        refine x_istore_n (ls' := [(1, .int ((savF hl r t) + (nI (hl 6 t)))), (2, .int (nI t)), (0, .ref y)]) dX12_saved_36 (by decide) rfl ?_
        refine x_iinc (v := nI (t + 1)) (ls' := [(2, .int (nI (t + 1))), (1, .int ((savF hl r t) + (nI (hl 6 t)))), (0, .ref y)]) dX12_saved_37 1 rfl (nIs _) (by decide) rfl ?_
        refine x_goto (tgt := 4) dX12_saved_40 (by decide) ?_
        refine x_leq (ls' := [(2, .int (nI (t + 1))), (1, .int (savF hl r (t + 1))), (0, .ref y)]) (by rw [show savF hl r (t + 1) = _ from if_pos c22]) ?_
        exact ih (t + 1) (by omega)
theorem Md_saved {K : xG} {h y : Nat} {G0 G : xHp} {hl : xHl} {r : xRw} {sc : Nat × Nat × Int32} {A : Nat → Nat → Int32} {F : Nat → Int32} {wa sa : Nat → Int64} (hM : MW G0 G y hl r sc A F wa sa) (h4 : hl 0 4 ≤ 7) : xCall K mX12_saved 0 0 0 [.ref y] h G (xRet (some (.int (savedS hl r))) h G) := by
  refine x_entry (by decide) (ls := [(0, .ref y)]) rfl (Nat.le_of_ble_eq_true rfl) ?_
  have hB := hM.hB
  refine x_iconst dX12_saved_0 ki_0 ?_
  refine x_istore_n (ls' := [(1, .int (nI 0)), (0, .ref y)]) dX12_saved_1 (by decide) rfl ?_
  refine x_iconst dX12_saved_2 ki_0 ?_
  refine x_istore_n (ls' := [(2, .int (nI 0)), (1, .int (nI 0)), (0, .ref y)]) dX12_saved_3 (by decide) rfl ?_
  exact Md_saved_loop hM h4 (hl 0 4) 0 (by omega)
