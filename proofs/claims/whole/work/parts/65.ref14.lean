theorem Md_coffee_n {K : xG} {h y : Nat} {G0 G : xHp} {hl : xHl} {r : xRw} {sc : Nat × Nat × Int32} {A : Nat → Nat → Int32} {F : Nat → Int32} {wa sa : Nat → Int64} {v w : Int32} (hM : MW G0 G y hl r sc A F wa sa) (hO : HallOk hl) (hn : ¬ (inR v (hl 0 3) = true ∧ r (5 + thN v) = -1 ∧ ¬ 0 < r (13 + thN v) ∧ ¬ w < nI 1 ∧ ¬ nI 60 < w)) : xCall K mX12_coffee 4 0 0 [.ref y, .int v, .int w] h G (xRet (some (.int (-1))) h G) := by
  refine x_entry (by decide) (ls := [(0, .ref y), (1, .int v), (2, .int w)]) rfl (Nat.le_of_ble_eq_true rfl) ?_
  have hB := hM.hB
  obtain ⟨o2, o3, o4, o5, o6, o7, o8, o9⟩ := id hO
  refine x_aload_n dX12_coffee_0 0 rfl ?_
  refine x_iload_n dX12_coffee_1 1 rfl ?_
  refine x_cV (N := mX12_isFree) (d' := 2) (mc := 0) (ms := 0) (cb := 0) (sb := 0) (As := [.int v]) (st := []) dX12_coffee_2 mX12_isFree_v lX12_431 rfl rfl (hM.1) rfl (by decide) (Nat.le_of_ble_eq_true rfl) (Md_isFree hM o3) rfl (st1 := [.int (bI (inR v (hl 0 3) && decide (r (5 + thN v) = -1)))]) rfl ?_
  refine x_ifB_eq (tgt := 29) dX12_coffee_5 (by decide) (fun c5 => ?_) (fun c5 => ?_)
  · refine x_iconst dX12_coffee_29 ki_m1 ?_
    exact x_iret dX12_coffee_30 rfl (xRet_i)
  · have hc5 := c5
    rw [Bool.and_eq_true] at hc5
    obtain ⟨h5a, h5b⟩ := hc5
    obtain ⟨g1, g2⟩ := inR_th h5a
    refine x_leq (ls' := [(0, .ref y), (1, .int (nI (thN v))), (2, .int w)]) (by rw [← g2]) ?_
    refine x_aload_n dX12_coffee_8 0 rfl ?_
    refine x_get (v := .ref (y + 7)) dX12_coffee_9 fX12_28 (hM.1) rfl ?_
    refine x_iload_n dX12_coffee_12 1 rfl ?_
    refine x_ialdN (n := 4) (f := blk r 13 4) dX12_coffee_13 (hM.c7) (by omega) (by decide) ?_
    refine x_topi (y := r (13 + (thN v))) (blk_at (by omega)) ?_
    refine x_if_gt (tgt := 29) dX12_coffee_14 (by decide) (fun c14 => ?_) (fun c14 => ?_)
    · refine x_pc (pc' := 29) rfl ?_
      refine x_iconst dX12_coffee_29 ki_m1 ?_
      exact x_iret dX12_coffee_30 rfl (xRet_i)
    · refine x_pc (pc' := 17) rfl ?_
      refine x_iload_n dX12_coffee_17 2 rfl ?_
      refine x_i2l dX12_coffee_18 ?_
      refine x_lconst (v := 1) dX12_coffee_19 rfl ?_
      refine x_ldc2 dX12_coffee_20 cX12_434 ?_
      refine x_cS (N := mX12_in) (d' := 0) (mc := 0) (ms := 0) (cb := 0) (sb := 0) (As := [.long w.toInt64, .long 1, .long (60 : Int64)]) (st := []) dX12_coffee_23 mX12_in_s lX12_155 rfl (by decide) (Nat.le_of_ble_eq_true rfl) (Md_in) rfl (st1 := [.int (bI (decide (1 ≤ w.toInt64 ∧ w.toInt64 ≤ (60 : Int64))))]) rfl ?_
      refine x_ifB_ne (tgt := 31) dX12_coffee_26 (by decide) (fun c26 => ?_) (fun c26 => ?_)
      · exact absurd ⟨h5a, of_decide_eq_true h5b, c14, of_decide_eq_true ((in_60 w).symm.trans c26)⟩ hn
      · refine x_iconst dX12_coffee_29 ki_m1 ?_
        exact x_iret dX12_coffee_30 rfl (xRet_i)
theorem Md_coffee_loop {K : xG} {h y : Nat} {G0 G : xHp} {hl : xHl} {r : xRw} {sc : Nat × Nat × Int32} {A : Nat → Nat → Int32} {F : Nat → Int32} {wa sa : Nat → Int64} {q : Nat} {w : Int32} (hM : MW G0 G y hl (upd r (13 + q) w) sc A F wa sa) (hO : HallOk hl) : ∀ (i k : Nat), k + i = hl 0 3 → xV K mX12_coffee 4 0 0 h G 47 [(4, .int (nI k)), (3, .int (nI (cntF (fun q1 => decide (0 < upd r (13 + q) w (13 + q1))) k))), (0, .ref y), (1, .int (nI q)), (2, .int w)] [] (mdQ G0 h y (some (.int (nI (cntF (fun q1 => decide (0 < upd r (13 + q) w (13 + q1))) (hl 0 3))))) hl (upd r (13 + q) w) sc A F wa sa) := by
  have hB := hM.hB
  obtain ⟨o2, o3, o4, o5, o6, o7, o8, o9⟩ := id hO
  intro i
  induction i with
  | zero =>
    intro k hi
    have hi0 : k = hl 0 3 := by omega
    subst hi0
    refine x_iload dX12_coffee_47 0 rfl ?_
    refine x_aload_n dX12_coffee_49 2 rfl ?_
    refine x_get (v := .ref (y + 1)) dX12_coffee_50 fX12_9 (hM.1) rfl ?_
    refine x_iconst dX12_coffee_53 ki_3 ?_
    refine x_ialdN (n := 9) (f := scal hl (upd r (13 + q) w) sc) dX12_coffee_54 (hM.c1) (by decide) (by decide) ?_
    refine x_topi (y := nI (hl 0 3)) rfl ?_
    refine x_icmpN_ge (tgt := 82) dX12_coffee_55 (by decide) (by have := hB 0 0; have := hB 0 2; have := hB 0 3; have := hB 0 4; omega) (by have := hB 0 0; have := hB 0 2; have := hB 0 3; have := hB 0 4; omega) (fun c55 => ?_) (fun c55 => ?_)
    · refine x_iload_n dX12_coffee_82 1 rfl ?_
      exact x_iret dX12_coffee_83 rfl (xEx_i G hM rfl rfl rfl)
    · exact absurd c55 (by omega)
  | succ i ih =>
    intro k hi
    refine x_iload dX12_coffee_47 0 rfl ?_
    refine x_aload_n dX12_coffee_49 2 rfl ?_
    refine x_get (v := .ref (y + 1)) dX12_coffee_50 fX12_9 (hM.1) rfl ?_
    refine x_iconst dX12_coffee_53 ki_3 ?_
    refine x_ialdN (n := 9) (f := scal hl (upd r (13 + q) w) sc) dX12_coffee_54 (hM.c1) (by decide) (by decide) ?_
    refine x_topi (y := nI (hl 0 3)) rfl ?_
    refine x_icmpN_ge (tgt := 82) dX12_coffee_55 (by decide) (by have := hB 0 0; have := hB 0 2; have := hB 0 3; have := hB 0 4; omega) (by have := hB 0 0; have := hB 0 2; have := hB 0 3; have := hB 0 4; omega) (fun c55 => ?_) (fun c55 => ?_)
    · exact absurd c55 (by omega)
    · refine x_iload_n dX12_coffee_58 1 rfl ?_
      refine x_aload_n dX12_coffee_59 2 rfl ?_
      refine x_get (v := .ref (y + 7)) dX12_coffee_60 fX12_28 (hM.1) rfl ?_
      refine x_pc (pc' := 63) rfl ?_
      refine x_iload dX12_coffee_63 0 rfl ?_
      refine x_ialdN (n := 4) (f := blk (upd r (13 + q) w) 13 4) dX12_coffee_65 (hM.c7) (by omega) (by decide) ?_
      refine x_topi (y := (upd r (13 + q) w) (13 + k)) (blk_at (by omega)) ?_
      refine x_if_le (tgt := 73) dX12_coffee_66 (by decide) (fun c66 => ?_) (fun c66 => ?_)
      · refine x_iconst dX12_coffee_73 ki_0 ?_
        refine x_iaddN dX12_coffee_74 ?_
        refine x_istore_n (ls' := [(3, .int (nI ((cntF (fun q1 => decide (0 < upd r (13 + q) w (13 + q1))) k) + 0))), (4, .int (nI k)), (0, .ref y), (1, .int (nI q)), (2, .int w)]) dX12_coffee_75 (by decide) rfl ?_
        refine x_iinc (v := nI (k + 1)) (ls' := [(4, .int (nI (k + 1))), (3, .int (nI ((cntF (fun q1 => decide (0 < upd r (13 + q) w (13 + q1))) k) + 0))), (0, .ref y), (1, .int (nI q)), (2, .int w)]) dX12_coffee_76 1 rfl (nIs _) (by decide) rfl ?_
        refine x_goto (tgt := 47) dX12_coffee_79 (by decide) ?_
        refine x_leq (ls' := [(4, .int (nI (k + 1))), (3, .int (nI (cntF (fun q1 => decide (0 < upd r (13 + q) w (13 + q1))) (k + 1)))), (0, .ref y), (1, .int (nI q)), (2, .int w)]) (by rw [show (cntF (fun q1 => decide (0 < upd r (13 + q) w (13 + q1))) k) + 0 = cntF (fun q1 => decide (0 < upd r (13 + q) w (13 + q1))) (k + 1) from cntF_f (decide_eq_false (Int32.not_lt.mpr c66))]) ?_
        exact ih (k + 1) (by omega)
      · refine x_iconst dX12_coffee_69 ki_1 ?_
        refine x_goto (tgt := 74) dX12_coffee_70 (by decide) ?_
        refine x_iaddN dX12_coffee_74 ?_
        refine x_istore_n (ls' := [(3, .int (nI ((cntF (fun q1 => decide (0 < upd r (13 + q) w (13 + q1))) k) + 1))), (4, .int (nI k)), (0, .ref y), (1, .int (nI q)), (2, .int w)]) dX12_coffee_75 (by decide) rfl ?_
        refine x_iinc (v := nI (k + 1)) (ls' := [(4, .int (nI (k + 1))), (3, .int (nI ((cntF (fun q1 => decide (0 < upd r (13 + q) w (13 + q1))) k) + 1))), (0, .ref y), (1, .int (nI q)), (2, .int w)]) dX12_coffee_76 1 rfl (nIs _) (by decide) rfl ?_
        refine x_goto (tgt := 47) dX12_coffee_79 (by decide) ?_
        refine x_leq (ls' := [(4, .int (nI (k + 1))), (3, .int (nI (cntF (fun q1 => decide (0 < upd r (13 + q) w (13 + q1))) (k + 1)))), (0, .ref y), (1, .int (nI q)), (2, .int w)]) (by rw [show (cntF (fun q1 => decide (0 < upd r (13 + q) w (13 + q1))) k) + 1 = cntF (fun q1 => decide (0 < upd r (13 + q) w (13 + q1))) (k + 1) from cntF_t (decide_eq_true (Int32.not_le.mp c66))]) ?_
        exact ih (k + 1) (by omega)
theorem Md_coffee_y {K : xG} {h y pm : Nat} {G0 G : xHp} {hl : xHl} {r : xRw} {sc : Nat × Nat × Int32} {A : Nat → Nat → Int32} {F : Nat → Int32} {wa sa : Nat → Int64} {q : Nat} {w : Int32} (hM : MW G0 G y hl r sc A F wa sa) (hO : HallOk hl) (hpm : F 49 = nI pm) (hp20 : pm ≤ 20) (hq : q < hl 0 3) (hf : r (5 + q) = -1) (hc : ¬ 0 < r (13 + q)) (hw1 : ¬ w < nI 1) (hw2 : ¬ nI 60 < w) : xCall K mX12_coffee 4 0 0 [.ref y, .int (nI q), .int w] h G (mdQ G0 h y (some (.int (nI (cntF (fun q1 => decide (0 < upd r (13 + q) w (13 + q1))) (hl 0 3))))) hl (upd r (13 + q) w) sc (setA A 37 (keepP (A 37) pm r)) (keepF F pm) wa sa) := by
  refine x_entry (by decide) (ls := [(0, .ref y), (1, .int (nI q)), (2, .int w)]) rfl (Nat.le_of_ble_eq_true rfl) ?_
  have hB := hM.hB
  obtain ⟨o2, o3, o4, o5, o6, o7, o8, o9⟩ := id hO
  refine x_aload_n dX12_coffee_0 0 rfl ?_
  refine x_iload_n dX12_coffee_1 1 rfl ?_
  refine x_cV (N := mX12_isFree) (d' := 2) (mc := 0) (ms := 0) (cb := 0) (sb := 0) (As := [.int (nI q)]) (st := []) dX12_coffee_2 mX12_isFree_v lX12_431 rfl rfl (hM.1) rfl (by decide) (Nat.le_of_ble_eq_true rfl) (Md_isFree hM o3) rfl (st1 := [.int (bI (inR (nI q) (hl 0 3) && decide (r (5 + thN (nI q)) = -1)))]) rfl ?_
  refine x_ifB_eq (tgt := 29) dX12_coffee_5 (by decide) (fun c5 => ?_) (fun c5 => ?_)
  · exact absurd c5 (by rw [inR_nI (by omega), thN_nI (by omega), decide_eq_true hq, decide_eq_true hf]; decide)
  · refine x_aload_n dX12_coffee_8 0 rfl ?_
    refine x_get (v := .ref (y + 7)) dX12_coffee_9 fX12_28 (hM.1) rfl ?_
    refine x_iload_n dX12_coffee_12 1 rfl ?_
    refine x_ialdN (n := 4) (f := blk r 13 4) dX12_coffee_13 (hM.c7) (by omega) (by decide) ?_
    refine x_topi (y := r (13 + q)) (blk_at (by omega)) ?_
    refine x_if_gt (tgt := 29) dX12_coffee_14 (by decide) (fun c14 => ?_) (fun c14 => ?_)
    · exact absurd c14 hc
    · refine x_pc (pc' := 17) rfl ?_
      refine x_iload_n dX12_coffee_17 2 rfl ?_
      refine x_i2l dX12_coffee_18 ?_
      refine x_lconst (v := 1) dX12_coffee_19 rfl ?_
      refine x_ldc2 dX12_coffee_20 cX12_434 ?_
      refine x_cS (N := mX12_in) (d' := 0) (mc := 0) (ms := 0) (cb := 0) (sb := 0) (As := [.long w.toInt64, .long 1, .long (60 : Int64)]) (st := []) dX12_coffee_23 mX12_in_s lX12_155 rfl (by decide) (Nat.le_of_ble_eq_true rfl) (Md_in) rfl (st1 := [.int (bI (decide (1 ≤ w.toInt64 ∧ w.toInt64 ≤ (60 : Int64))))]) rfl ?_
      refine x_ifB_ne (tgt := 31) dX12_coffee_26 (by decide) (fun c26 => ?_) (fun c26 => ?_)
      · refine x_aload_n dX12_coffee_31 0 rfl ?_
        refine x_cVe (N := mX12_keepsAct) (d' := 3) (mc := 0) (ms := 0) (cb := 0) (sb := 0) (As := []) (st := []) dX12_coffee_32 mX12_keepsAct_v lX12_428 rfl rfl (hM.1) rfl (by decide) (Nat.le_of_ble_eq_true rfl) (Md_keepsAct hM hpm hp20) rfl (sf := fun Gk => []) (fun _ => rfl) (fun Gk hNk => ?_)
        refine x_aload_n dX12_coffee_35 0 rfl ?_
        refine x_get (v := .ref (y + 7)) dX12_coffee_36 fX12_28 (hNk.1) rfl ?_
        refine x_pc (pc' := 39) rfl ?_
        refine x_iload_n dX12_coffee_39 1 rfl ?_
        refine x_iload_n dX12_coffee_40 2 rfl ?_
        refine x_iastN (n := 4) (f := blk r 13 4) dX12_coffee_41 (hNk.c7) (by omega) (by decide) ?_
        have hM1 := hNk.s7 q w (by omega)
        refine x_iconst dX12_coffee_42 ki_0 ?_
        refine x_istore_n (ls' := [(3, .int (nI 0)), (0, .ref y), (1, .int (nI q)), (2, .int w)]) dX12_coffee_43 (by decide) rfl ?_
        refine x_iconst dX12_coffee_44 ki_0 ?_
        refine x_istore (ls' := [(4, .int (nI 0)), (3, .int (nI 0)), (0, .ref y), (1, .int (nI q)), (2, .int w)]) dX12_coffee_45 (by decide) rfl ?_
        exact Md_coffee_loop hM1 hO (hl 0 3) 0 (by omega)
      · exact absurd c26 (by rw [in_60, decide_eq_true ⟨hw1, hw2⟩]; decide)
theorem Md_ahead_n {K : xG} {h y : Nat} {G0 G : xHp} {hl : xHl} {r : xRw} {sc : Nat × Nat × Int32} {A : Nat → Nat → Int32} {F : Nat → Int32} {wa sa : Nat → Int64} {v n w : Int32} (hM : MW G0 G y hl r sc A F wa sa) (hO : HallOk hl) (hn : ¬ (0 < hl 0 0 ∧ ((w = 0 ∧ inR v (hl 0 4) = true) ∨ (w = nI 1 ∧ inR v (hl 0 3) = true) ∨ w = nI 2) ∧ inR n 401 = true)) : xCall K mX12_ahead 9 0 0 [.ref y, .int v, .int n, .int w] h G (xRet (some (.int (-2))) h G) := by
  refine x_entry (by decide) (ls := [(0, .ref y), (1, .int v), (2, .int n), (3, .int w)]) rfl (Nat.le_of_ble_eq_true rfl) ?_
  have hB := hM.hB
  obtain ⟨o2, o3, o4, o5, o6, o7, o8, o9⟩ := id hO
  refine x_iload_n dX12_ahead_0 3 rfl ?_
  refine x_if_ne (tgt := 12) dX12_ahead_1 (by decide) (fun c1 => ?_) (fun c1 => ?_)
  · refine x_iload_n dX12_ahead_12 3 rfl ?_
    refine x_iconst dX12_ahead_13 ki_1 ?_
    refine x_icmp_ne (x := w) (y := nI 1) (tgt := 25) dX12_ahead_14 (by decide) (fun c14 => ?_) (fun c14 => ?_)
    · refine x_iload_n dX12_ahead_25 3 rfl ?_
      refine x_iconst dX12_ahead_26 ki_2 ?_
      refine x_icmp_ne (x := w) (y := nI 2) (tgt := 34) dX12_ahead_27 (by decide) (fun c27 => ?_) (fun c27 => ?_)
      · refine x_iconst dX12_ahead_34 ki_0 ?_
        refine x_pc (pc' := 35) rfl ?_
        refine x_istore (ls' := [(4, .int (nI 0)), (0, .ref y), (1, .int v), (2, .int n), (3, .int w)]) dX12_ahead_35 (by decide) rfl ?_
        refine x_aload_n dX12_ahead_37 1 rfl ?_
        refine x_cV (N := mX12_isHall) (d' := 0) (mc := 0) (ms := 0) (cb := 0) (sb := 0) (As := []) (st := []) dX12_ahead_38 mX12_isHall_v lX12_425 rfl rfl (hM.1) rfl (by decide) (Nat.le_of_ble_eq_true rfl) (Md_isHall hM) rfl (st1 := [.int (bI (decide (0 < hl 0 0)))]) rfl ?_
        refine x_ifB_eq (tgt := 61) dX12_ahead_41 (by decide) (fun c41 => ?_) (fun c41 => ?_)
        · refine x_bipush dX12_ahead_61 kb_m2 ?_
          exact x_iret dX12_ahead_63 rfl (xRet_i)
        · refine x_iload dX12_ahead_44 0 rfl ?_
          refine x_ifN_eq (tgt := 61) dX12_ahead_46 (by decide) (by have := hB 0 0; have := hB 0 2; have := hB 0 3; have := hB 0 4; omega) (fun c46 => ?_) (fun c46 => ?_)
          · refine x_bipush dX12_ahead_61 kb_m2 ?_
            exact x_iret dX12_ahead_63 rfl (xRet_i)
          · exact absurd c46 (by decide)
      · refine x_iconst dX12_ahead_30 ki_1 ?_
        refine x_pc (pc' := 31) rfl ?_
        refine x_goto (tgt := 35) dX12_ahead_31 (by decide) ?_
        refine x_istore (ls' := [(4, .int (nI 1)), (0, .ref y), (1, .int v), (2, .int n), (3, .int w)]) dX12_ahead_35 (by decide) rfl ?_
        refine x_aload_n dX12_ahead_37 1 rfl ?_
        refine x_cV (N := mX12_isHall) (d' := 0) (mc := 0) (ms := 0) (cb := 0) (sb := 0) (As := []) (st := []) dX12_ahead_38 mX12_isHall_v lX12_425 rfl rfl (hM.1) rfl (by decide) (Nat.le_of_ble_eq_true rfl) (Md_isHall hM) rfl (st1 := [.int (bI (decide (0 < hl 0 0)))]) rfl ?_
        refine x_ifB_eq (tgt := 61) dX12_ahead_41 (by decide) (fun c41 => ?_) (fun c41 => ?_)
        · refine x_bipush dX12_ahead_61 kb_m2 ?_
          exact x_iret dX12_ahead_63 rfl (xRet_i)
        · refine x_iload dX12_ahead_44 0 rfl ?_
          refine x_ifN_eq (tgt := 61) dX12_ahead_46 (by decide) (by have := hB 0 0; have := hB 0 2; have := hB 0 3; have := hB 0 4; omega) (fun c46 => ?_) (fun c46 => ?_)
          · exact absurd c46 (by decide)
          · refine x_iload_n dX12_ahead_49 3 rfl ?_
            refine x_i2l dX12_ahead_50 ?_
            refine x_lconst (v := 0) dX12_ahead_51 rfl ?_
            refine x_pc (pc' := 52) rfl ?_
            refine x_ldc2 dX12_ahead_52 cX12_439 ?_
            refine x_cS (N := mX12_in) (d' := 0) (mc := 0) (ms := 0) (cb := 0) (sb := 0) (As := [.long n.toInt64, .long 0, .long (400 : Int64)]) (st := []) dX12_ahead_55 mX12_in_s lX12_155 rfl (by decide) (Nat.le_of_ble_eq_true rfl) (Md_in) rfl (st1 := [.int (bI (decide (0 ≤ n.toInt64 ∧ n.toInt64 ≤ (400 : Int64))))]) rfl ?_
            refine x_ifB_ne (tgt := 64) dX12_ahead_58 (by decide) (fun c58 => ?_) (fun c58 => ?_)
            · exact absurd ⟨of_decide_eq_true c41, Or.inr (Or.inr c27), (in_400 n).symm.trans c58⟩ hn
            · refine x_bipush dX12_ahead_61 kb_m2 ?_
              exact x_iret dX12_ahead_63 rfl (xRet_i)
    · refine x_aload_n dX12_ahead_17 0 rfl ?_
      refine x_iload_n dX12_ahead_18 1 rfl ?_
      refine x_cV (N := mX12_isMender) (d' := 1) (mc := 0) (ms := 0) (cb := 0) (sb := 0) (As := [.int v]) (st := []) dX12_ahead_19 mX12_isMender_v lX12_364 rfl rfl (hM.1) rfl (by decide) (Nat.le_of_ble_eq_true rfl) (Md_isMender hM) rfl (st1 := [.int (bI (inR v (hl 0 3)))]) rfl ?_
      refine x_ifB_ne (tgt := 30) dX12_ahead_22 (by decide) (fun c22 => ?_) (fun c22 => ?_)
      · refine x_pc (pc' := 30) rfl ?_
        refine x_iconst dX12_ahead_30 ki_1 ?_
        refine x_goto (tgt := 35) dX12_ahead_31 (by decide) ?_
        refine x_istore (ls' := [(4, .int (nI 1)), (0, .ref y), (1, .int v), (2, .int n), (3, .int w)]) dX12_ahead_35 (by decide) rfl ?_
        refine x_aload_n dX12_ahead_37 1 rfl ?_
        refine x_cV (N := mX12_isHall) (d' := 0) (mc := 0) (ms := 0) (cb := 0) (sb := 0) (As := []) (st := []) dX12_ahead_38 mX12_isHall_v lX12_425 rfl rfl (hM.1) rfl (by decide) (Nat.le_of_ble_eq_true rfl) (Md_isHall hM) rfl (st1 := [.int (bI (decide (0 < hl 0 0)))]) rfl ?_
        refine x_ifB_eq (tgt := 61) dX12_ahead_41 (by decide) (fun c41 => ?_) (fun c41 => ?_)
        · refine x_bipush dX12_ahead_61 kb_m2 ?_
          exact x_iret dX12_ahead_63 rfl (xRet_i)
        · refine x_iload dX12_ahead_44 0 rfl ?_
          refine x_ifN_eq (tgt := 61) dX12_ahead_46 (by decide) (by have := hB 0 0; have := hB 0 2; have := hB 0 3; have := hB 0 4; omega) (fun c46 => ?_) (fun c46 => ?_)
          · exact absurd c46 (by decide)
          · refine x_iload_n dX12_ahead_49 3 rfl ?_
            refine x_i2l dX12_ahead_50 ?_
            refine x_pc (pc' := 51) rfl ?_
            refine x_lconst (v := 0) dX12_ahead_51 rfl ?_
            refine x_ldc2 dX12_ahead_52 cX12_439 ?_
            refine x_cS (N := mX12_in) (d' := 0) (mc := 0) (ms := 0) (cb := 0) (sb := 0) (As := [.long n.toInt64, .long 0, .long (400 : Int64)]) (st := []) dX12_ahead_55 mX12_in_s lX12_155 rfl (by decide) (Nat.le_of_ble_eq_true rfl) (Md_in) rfl (st1 := [.int (bI (decide (0 ≤ n.toInt64 ∧ n.toInt64 ≤ (400 : Int64))))]) rfl ?_
            refine x_ifB_ne (tgt := 64) dX12_ahead_58 (by decide) (fun c58 => ?_) (fun c58 => ?_)
            · exact absurd ⟨of_decide_eq_true c41, Or.inr (Or.inl ⟨c14, c22⟩), (in_400 n).symm.trans c58⟩ hn
            · refine x_bipush dX12_ahead_61 kb_m2 ?_
              exact x_iret dX12_ahead_63 rfl (xRet_i)
      · refine x_pc (pc' := 25) rfl ?_
        refine x_iload_n dX12_ahead_25 3 rfl ?_
        refine x_iconst dX12_ahead_26 ki_2 ?_
        refine x_icmp_ne (x := w) (y := nI 2) (tgt := 34) dX12_ahead_27 (by decide) (fun c27 => ?_) (fun c27 => ?_)
        · refine x_iconst dX12_ahead_34 ki_0 ?_
          refine x_istore (ls' := [(4, .int (nI 0)), (0, .ref y), (1, .int v), (2, .int n), (3, .int w)]) dX12_ahead_35 (by decide) rfl ?_
          refine x_aload_n dX12_ahead_37 1 rfl ?_
          refine x_cV (N := mX12_isHall) (d' := 0) (mc := 0) (ms := 0) (cb := 0) (sb := 0) (As := []) (st := []) dX12_ahead_38 mX12_isHall_v lX12_425 rfl rfl (hM.1) rfl (by decide) (Nat.le_of_ble_eq_true rfl) (Md_isHall hM) rfl (st1 := [.int (bI (decide (0 < hl 0 0)))]) rfl ?_
          refine x_ifB_eq (tgt := 61) dX12_ahead_41 (by decide) (fun c41 => ?_) (fun c41 => ?_)
          · refine x_bipush dX12_ahead_61 kb_m2 ?_
            exact x_iret dX12_ahead_63 rfl (xRet_i)
          · refine x_iload dX12_ahead_44 0 rfl ?_
            refine x_ifN_eq (tgt := 61) dX12_ahead_46 (by decide) (by have := hB 0 0; have := hB 0 2; have := hB 0 3; have := hB 0 4; omega) (fun c46 => ?_) (fun c46 => ?_)
            · refine x_pc (pc' := 61) rfl ?_
              refine x_bipush dX12_ahead_61 kb_m2 ?_
              exact x_iret dX12_ahead_63 rfl (xRet_i)
            · exact absurd c46 (by decide)
        · refine x_iconst dX12_ahead_30 ki_1 ?_
          refine x_goto (tgt := 35) dX12_ahead_31 (by decide) ?_
          refine x_istore (ls' := [(4, .int (nI 1)), (0, .ref y), (1, .int v), (2, .int n), (3, .int w)]) dX12_ahead_35 (by decide) rfl ?_
          refine x_aload_n dX12_ahead_37 1 rfl ?_
          refine x_cV (N := mX12_isHall) (d' := 0) (mc := 0) (ms := 0) (cb := 0) (sb := 0) (As := []) (st := []) dX12_ahead_38 mX12_isHall_v lX12_425 rfl rfl (hM.1) rfl (by decide) (Nat.le_of_ble_eq_true rfl) (Md_isHall hM) rfl (st1 := [.int (bI (decide (0 < hl 0 0)))]) rfl ?_
          refine x_ifB_eq (tgt := 61) dX12_ahead_41 (by decide) (fun c41 => ?_) (fun c41 => ?_)
          · refine x_bipush dX12_ahead_61 kb_m2 ?_
            refine x_pc (pc' := 63) rfl ?_
            exact x_iret dX12_ahead_63 rfl (xRet_i)
          · refine x_iload dX12_ahead_44 0 rfl ?_
            refine x_pc (pc' := 46) rfl ?_
            refine x_ifN_eq (tgt := 61) dX12_ahead_46 (by decide) (by have := hB 0 0; have := hB 0 2; have := hB 0 3; have := hB 0 4; omega) (fun c46 => ?_) (fun c46 => ?_)
            · exact absurd c46 (by decide)
            · refine x_iload_n dX12_ahead_49 3 rfl ?_
              refine x_i2l dX12_ahead_50 ?_
              refine x_lconst (v := 0) dX12_ahead_51 rfl ?_
              refine x_ldc2 dX12_ahead_52 cX12_439 ?_
              refine x_cS (N := mX12_in) (d' := 0) (mc := 0) (ms := 0) (cb := 0) (sb := 0) (As := [.long n.toInt64, .long 0, .long (400 : Int64)]) (st := []) dX12_ahead_55 mX12_in_s lX12_155 rfl (by decide) (Nat.le_of_ble_eq_true rfl) (Md_in) rfl (st1 := [.int (bI (decide (0 ≤ n.toInt64 ∧ n.toInt64 ≤ (400 : Int64))))]) rfl ?_
              refine x_ifB_ne (tgt := 64) dX12_ahead_58 (by decide) (fun c58 => ?_) (fun c58 => ?_)
              · exact absurd ⟨of_decide_eq_true c41, Or.inr (Or.inr c27), (in_400 n).symm.trans c58⟩ hn
              · refine x_bipush dX12_ahead_61 kb_m2 ?_
                exact x_iret dX12_ahead_63 rfl (xRet_i)
  · refine x_aload_n dX12_ahead_4 0 rfl ?_
    refine x_iload_n dX12_ahead_5 1 rfl ?_
    refine x_cV (N := mX12_isThing) (d' := 1) (mc := 0) (ms := 0) (cb := 0) (sb := 0) (As := [.int v]) (st := []) dX12_ahead_6 mX12_isThing_v lX12_360 rfl rfl (hM.1) rfl (by decide) (Nat.le_of_ble_eq_true rfl) (Md_isThing hM) rfl (st1 := [.int (bI (inR v (hl 0 4)))]) rfl ?_
    refine x_ifB_ne (tgt := 30) dX12_ahead_9 (by decide) (fun c9 => ?_) (fun c9 => ?_)
    · refine x_iconst dX12_ahead_30 ki_1 ?_
      refine x_goto (tgt := 35) dX12_ahead_31 (by decide) ?_
      refine x_istore (ls' := [(4, .int (nI 1)), (0, .ref y), (1, .int v), (2, .int n), (3, .int w)]) dX12_ahead_35 (by decide) rfl ?_
      refine x_pc (pc' := 37) rfl ?_
      refine x_aload_n dX12_ahead_37 1 rfl ?_
      refine x_cV (N := mX12_isHall) (d' := 0) (mc := 0) (ms := 0) (cb := 0) (sb := 0) (As := []) (st := []) dX12_ahead_38 mX12_isHall_v lX12_425 rfl rfl (hM.1) rfl (by decide) (Nat.le_of_ble_eq_true rfl) (Md_isHall hM) rfl (st1 := [.int (bI (decide (0 < hl 0 0)))]) rfl ?_
      refine x_ifB_eq (tgt := 61) dX12_ahead_41 (by decide) (fun c41 => ?_) (fun c41 => ?_)
      · refine x_bipush dX12_ahead_61 kb_m2 ?_
        exact x_iret dX12_ahead_63 rfl (xRet_i)
      · refine x_iload dX12_ahead_44 0 rfl ?_
        refine x_ifN_eq (tgt := 61) dX12_ahead_46 (by decide) (by have := hB 0 0; have := hB 0 2; have := hB 0 3; have := hB 0 4; omega) (fun c46 => ?_) (fun c46 => ?_)
        · exact absurd c46 (by decide)
        · refine x_iload_n dX12_ahead_49 3 rfl ?_
          refine x_i2l dX12_ahead_50 ?_
          refine x_lconst (v := 0) dX12_ahead_51 rfl ?_
          refine x_ldc2 dX12_ahead_52 cX12_439 ?_
          refine x_cS (N := mX12_in) (d' := 0) (mc := 0) (ms := 0) (cb := 0) (sb := 0) (As := [.long n.toInt64, .long 0, .long (400 : Int64)]) (st := []) dX12_ahead_55 mX12_in_s lX12_155 rfl (by decide) (Nat.le_of_ble_eq_true rfl) (Md_in) rfl (st1 := [.int (bI (decide (0 ≤ n.toInt64 ∧ n.toInt64 ≤ (400 : Int64))))]) rfl ?_
          refine x_pc (pc' := 58) rfl ?_
          refine x_ifB_ne (tgt := 64) dX12_ahead_58 (by decide) (fun c58 => ?_) (fun c58 => ?_)
          · exact absurd ⟨of_decide_eq_true c41, Or.inl ⟨c1, c9⟩, (in_400 n).symm.trans c58⟩ hn
          · refine x_bipush dX12_ahead_61 kb_m2 ?_
            exact x_iret dX12_ahead_63 rfl (xRet_i)
    · refine x_iload_n dX12_ahead_12 3 rfl ?_
      refine x_iconst dX12_ahead_13 ki_1 ?_
      refine x_icmp_ne (x := w) (y := nI 1) (tgt := 25) dX12_ahead_14 (by decide) (fun c14 => ?_) (fun c14 => ?_)
      · refine x_pc (pc' := 25) rfl ?_
        refine x_iload_n dX12_ahead_25 3 rfl ?_
        refine x_iconst dX12_ahead_26 ki_2 ?_
        refine x_icmp_ne (x := w) (y := nI 2) (tgt := 34) dX12_ahead_27 (by decide) (fun c27 => ?_) (fun c27 => ?_)
        · refine x_iconst dX12_ahead_34 ki_0 ?_
          refine x_istore (ls' := [(4, .int (nI 0)), (0, .ref y), (1, .int v), (2, .int n), (3, .int w)]) dX12_ahead_35 (by decide) rfl ?_
          refine x_aload_n dX12_ahead_37 1 rfl ?_
          refine x_cV (N := mX12_isHall) (d' := 0) (mc := 0) (ms := 0) (cb := 0) (sb := 0) (As := []) (st := []) dX12_ahead_38 mX12_isHall_v lX12_425 rfl rfl (hM.1) rfl (by decide) (Nat.le_of_ble_eq_true rfl) (Md_isHall hM) rfl (st1 := [.int (bI (decide (0 < hl 0 0)))]) rfl ?_
          refine x_ifB_eq (tgt := 61) dX12_ahead_41 (by decide) (fun c41 => ?_) (fun c41 => ?_)
          · refine x_bipush dX12_ahead_61 kb_m2 ?_
            exact x_iret dX12_ahead_63 rfl (xRet_i)
          · refine x_iload dX12_ahead_44 0 rfl ?_
            refine x_ifN_eq (tgt := 61) dX12_ahead_46 (by decide) (by have := hB 0 0; have := hB 0 2; have := hB 0 3; have := hB 0 4; omega) (fun c46 => ?_) (fun c46 => ?_)
            · refine x_pc (pc' := 61) rfl ?_
              refine x_bipush dX12_ahead_61 kb_m2 ?_
              exact x_iret dX12_ahead_63 rfl (xRet_i)
            · exact absurd c46 (by decide)
        · refine x_iconst dX12_ahead_30 ki_1 ?_
          refine x_goto (tgt := 35) dX12_ahead_31 (by decide) ?_
          refine x_istore (ls' := [(4, .int (nI 1)), (0, .ref y), (1, .int v), (2, .int n), (3, .int w)]) dX12_ahead_35 (by decide) rfl ?_
          refine x_aload_n dX12_ahead_37 1 rfl ?_
          refine x_cV (N := mX12_isHall) (d' := 0) (mc := 0) (ms := 0) (cb := 0) (sb := 0) (As := []) (st := []) dX12_ahead_38 mX12_isHall_v lX12_425 rfl rfl (hM.1) rfl (by decide) (Nat.le_of_ble_eq_true rfl) (Md_isHall hM) rfl (st1 := [.int (bI (decide (0 < hl 0 0)))]) rfl ?_
          refine x_ifB_eq (tgt := 61) dX12_ahead_41 (by decide) (fun c41 => ?_) (fun c41 => ?_)
          · refine x_bipush dX12_ahead_61 kb_m2 ?_
            refine x_pc (pc' := 63) rfl ?_
            exact x_iret dX12_ahead_63 rfl (xRet_i)
          · refine x_iload dX12_ahead_44 0 rfl ?_
            refine x_pc (pc' := 46) rfl ?_
            refine x_ifN_eq (tgt := 61) dX12_ahead_46 (by decide) (by have := hB 0 0; have := hB 0 2; have := hB 0 3; have := hB 0 4; omega) (fun c46 => ?_) (fun c46 => ?_)
            · exact absurd c46 (by decide)
            · refine x_iload_n dX12_ahead_49 3 rfl ?_
              refine x_i2l dX12_ahead_50 ?_
              refine x_lconst (v := 0) dX12_ahead_51 rfl ?_
              refine x_ldc2 dX12_ahead_52 cX12_439 ?_
              refine x_cS (N := mX12_in) (d' := 0) (mc := 0) (ms := 0) (cb := 0) (sb := 0) (As := [.long n.toInt64, .long 0, .long (400 : Int64)]) (st := []) dX12_ahead_55 mX12_in_s lX12_155 rfl (by decide) (Nat.le_of_ble_eq_true rfl) (Md_in) rfl (st1 := [.int (bI (decide (0 ≤ n.toInt64 ∧ n.toInt64 ≤ (400 : Int64))))]) rfl ?_
              refine x_ifB_ne (tgt := 64) dX12_ahead_58 (by decide) (fun c58 => ?_) (fun c58 => ?_)
              · exact absurd ⟨of_decide_eq_true c41, Or.inr (Or.inr c27), (in_400 n).symm.trans c58⟩ hn
              · refine x_bipush dX12_ahead_61 kb_m2 ?_
                exact x_iret dX12_ahead_63 rfl (xRet_i)
      · refine x_pc (pc' := 17) rfl ?_
        refine x_aload_n dX12_ahead_17 0 rfl ?_
        refine x_iload_n dX12_ahead_18 1 rfl ?_
        refine x_cV (N := mX12_isMender) (d' := 1) (mc := 0) (ms := 0) (cb := 0) (sb := 0) (As := [.int v]) (st := []) dX12_ahead_19 mX12_isMender_v lX12_364 rfl rfl (hM.1) rfl (by decide) (Nat.le_of_ble_eq_true rfl) (Md_isMender hM) rfl (st1 := [.int (bI (inR v (hl 0 3)))]) rfl ?_
        refine x_ifB_ne (tgt := 30) dX12_ahead_22 (by decide) (fun c22 => ?_) (fun c22 => ?_)
        · refine x_iconst dX12_ahead_30 ki_1 ?_
          refine x_goto (tgt := 35) dX12_ahead_31 (by decide) ?_
          refine x_istore (ls' := [(4, .int (nI 1)), (0, .ref y), (1, .int v), (2, .int n), (3, .int w)]) dX12_ahead_35 (by decide) rfl ?_
          refine x_aload_n dX12_ahead_37 1 rfl ?_
          refine x_cV (N := mX12_isHall) (d' := 0) (mc := 0) (ms := 0) (cb := 0) (sb := 0) (As := []) (st := []) dX12_ahead_38 mX12_isHall_v lX12_425 rfl rfl (hM.1) rfl (by decide) (Nat.le_of_ble_eq_true rfl) (Md_isHall hM) rfl (st1 := [.int (bI (decide (0 < hl 0 0)))]) rfl ?_
          refine x_ifB_eq (tgt := 61) dX12_ahead_41 (by decide) (fun c41 => ?_) (fun c41 => ?_)
          · refine x_pc (pc' := 61) rfl ?_
            refine x_bipush dX12_ahead_61 kb_m2 ?_
            exact x_iret dX12_ahead_63 rfl (xRet_i)
          · refine x_pc (pc' := 44) rfl ?_
            refine x_iload dX12_ahead_44 0 rfl ?_
            refine x_ifN_eq (tgt := 61) dX12_ahead_46 (by decide) (by have := hB 0 0; have := hB 0 2; have := hB 0 3; have := hB 0 4; omega) (fun c46 => ?_) (fun c46 => ?_)
            · exact absurd c46 (by decide)
            · refine x_iload_n dX12_ahead_49 3 rfl ?_
              refine x_i2l dX12_ahead_50 ?_
              refine x_lconst (v := 0) dX12_ahead_51 rfl ?_
              refine x_ldc2 dX12_ahead_52 cX12_439 ?_
              refine x_cS (N := mX12_in) (d' := 0) (mc := 0) (ms := 0) (cb := 0) (sb := 0) (As := [.long n.toInt64, .long 0, .long (400 : Int64)]) (st := []) dX12_ahead_55 mX12_in_s lX12_155 rfl (by decide) (Nat.le_of_ble_eq_true rfl) (Md_in) rfl (st1 := [.int (bI (decide (0 ≤ n.toInt64 ∧ n.toInt64 ≤ (400 : Int64))))]) rfl ?_
              refine x_ifB_ne (tgt := 64) dX12_ahead_58 (by decide) (fun c58 => ?_) (fun c58 => ?_)
              · exact absurd ⟨of_decide_eq_true c41, Or.inr (Or.inl ⟨c14, c22⟩), (in_400 n).symm.trans c58⟩ hn
              · refine x_bipush dX12_ahead_61 kb_m2 ?_
                exact x_iret dX12_ahead_63 rfl (xRet_i)
        · refine x_iload_n dX12_ahead_25 3 rfl ?_
          refine x_iconst dX12_ahead_26 ki_2 ?_
          refine x_icmp_ne (x := w) (y := nI 2) (tgt := 34) dX12_ahead_27 (by decide) (fun c27 => ?_) (fun c27 => ?_)
          · refine x_iconst dX12_ahead_34 ki_0 ?_
            refine x_istore (ls' := [(4, .int (nI 0)), (0, .ref y), (1, .int v), (2, .int n), (3, .int w)]) dX12_ahead_35 (by decide) rfl ?_
            refine x_aload_n dX12_ahead_37 1 rfl ?_
            refine x_pc (pc' := 38) rfl ?_
            refine x_cV (N := mX12_isHall) (d' := 0) (mc := 0) (ms := 0) (cb := 0) (sb := 0) (As := []) (st := []) dX12_ahead_38 mX12_isHall_v lX12_425 rfl rfl (hM.1) rfl (by decide) (Nat.le_of_ble_eq_true rfl) (Md_isHall hM) rfl (st1 := [.int (bI (decide (0 < hl 0 0)))]) rfl ?_
            refine x_ifB_eq (tgt := 61) dX12_ahead_41 (by decide) (fun c41 => ?_) (fun c41 => ?_)
            · refine x_bipush dX12_ahead_61 kb_m2 ?_
              exact x_iret dX12_ahead_63 rfl (xRet_i)
            · refine x_iload dX12_ahead_44 0 rfl ?_
              refine x_ifN_eq (tgt := 61) dX12_ahead_46 (by decide) (by have := hB 0 0; have := hB 0 2; have := hB 0 3; have := hB 0 4; omega) (fun c46 => ?_) (fun c46 => ?_)
              · refine x_bipush dX12_ahead_61 kb_m2 ?_
                exact x_iret dX12_ahead_63 rfl (xRet_i)
              · exact absurd c46 (by decide)
          · refine x_iconst dX12_ahead_30 ki_1 ?_
            refine x_goto (tgt := 35) dX12_ahead_31 (by decide) ?_
            refine x_istore (ls' := [(4, .int (nI 1)), (0, .ref y), (1, .int v), (2, .int n), (3, .int w)]) dX12_ahead_35 (by decide) rfl ?_
            refine x_pc (pc' := 37) rfl ?_
            refine x_aload_n dX12_ahead_37 1 rfl ?_
            refine x_cV (N := mX12_isHall) (d' := 0) (mc := 0) (ms := 0) (cb := 0) (sb := 0) (As := []) (st := []) dX12_ahead_38 mX12_isHall_v lX12_425 rfl rfl (hM.1) rfl (by decide) (Nat.le_of_ble_eq_true rfl) (Md_isHall hM) rfl (st1 := [.int (bI (decide (0 < hl 0 0)))]) rfl ?_
            refine x_ifB_eq (tgt := 61) dX12_ahead_41 (by decide) (fun c41 => ?_) (fun c41 => ?_)
            · refine x_bipush dX12_ahead_61 kb_m2 ?_
              exact x_iret dX12_ahead_63 rfl (xRet_i)
            · refine x_iload dX12_ahead_44 0 rfl ?_
              refine x_ifN_eq (tgt := 61) dX12_ahead_46 (by decide) (by have := hB 0 0; have := hB 0 2; have := hB 0 3; have := hB 0 4; omega) (fun c46 => ?_) (fun c46 => ?_)
              · exact absurd c46 (by decide)
              · refine x_iload_n dX12_ahead_49 3 rfl ?_
                refine x_i2l dX12_ahead_50 ?_
                refine x_lconst (v := 0) dX12_ahead_51 rfl ?_
                refine x_ldc2 dX12_ahead_52 cX12_439 ?_
                refine x_cS (N := mX12_in) (d' := 0) (mc := 0) (ms := 0) (cb := 0) (sb := 0) (As := [.long n.toInt64, .long 0, .long (400 : Int64)]) (st := []) dX12_ahead_55 mX12_in_s lX12_155 rfl (by decide) (Nat.le_of_ble_eq_true rfl) (Md_in) rfl (st1 := [.int (bI (decide (0 ≤ n.toInt64 ∧ n.toInt64 ≤ (400 : Int64))))]) rfl ?_
                refine x_pc (pc' := 58) rfl ?_
                refine x_ifB_ne (tgt := 64) dX12_ahead_58 (by decide) (fun c58 => ?_) (fun c58 => ?_)
                · exact absurd ⟨of_decide_eq_true c41, Or.inr (Or.inr c27), (in_400 n).symm.trans c58⟩ hn
                · refine x_bipush dX12_ahead_61 kb_m2 ?_
                  exact x_iret dX12_ahead_63 rfl (xRet_i)
theorem Md_ahead_y0 {K : xG} {h y : Nat} {G0 G : xHp} {hl : xHl} {r : xRw} {sc : Nat × Nat × Int32} {A : Nat → Nat → Int32} {F : Nat → Int32} {wa sa : Nat → Int64} {t n : Nat} (hM : MW G0 G y hl r sc A F wa sa) {rv : Option (List Nat)} (hO : HallOk hl) (hV : RvR A sc rv) (hrow : RowOk hl r) (h1 : 0 < hl 0 0) (ht : t < hl 0 4) (hn : n ≤ 400) : xCall K mX12_ahead 9 0 0 [.ref y, .int (nI t), .int (nI n), .int (nI 0)] h G (mdX G0 h y (some (.int (goN hl rv r n (21 + t)))) hl r sc (setA A 44 (svI (ovr A hl r sc) 3600 9)) (cF F 1 3650)) := by
  refine x_entry (by decide) (ls := [(0, .ref y), (1, .int (nI t)), (2, .int (nI n)), (3, .int (nI 0))]) rfl (Nat.le_of_ble_eq_true rfl) ?_
  have hB := hM.hB
  obtain ⟨o2, o3, o4, o5, o6, o7, o8, o9⟩ := id hO
  refine x_iload_n dX12_ahead_0 3 rfl ?_
  refine x_ifN_ne (tgt := 12) dX12_ahead_1 (by decide) (by have := hB 0 0; have := hB 0 2; have := hB 0 3; have := hB 0 4; omega) (fun c1 => ?_) (fun c1 => ?_)
  · exact absurd c1 (by decide)
  · refine x_aload_n dX12_ahead_4 0 rfl ?_
    refine x_iload_n dX12_ahead_5 1 rfl ?_
    refine x_cV (N := mX12_isThing) (d' := 1) (mc := 0) (ms := 0) (cb := 0) (sb := 0) (As := [.int (nI t)]) (st := []) dX12_ahead_6 mX12_isThing_v lX12_360 rfl rfl (hM.1) rfl (by decide) (Nat.le_of_ble_eq_true rfl) (Md_isThing hM) rfl (st1 := [.int (bI (inR (nI t) (hl 0 4)))]) rfl ?_
    refine x_ifB_ne (tgt := 30) dX12_ahead_9 (by decide) (fun c9 => ?_) (fun c9 => ?_)
    · refine x_iconst dX12_ahead_30 ki_1 ?_
      refine x_goto (tgt := 35) dX12_ahead_31 (by decide) ?_
      refine x_istore (ls' := [(4, .int (nI 1)), (0, .ref y), (1, .int (nI t)), (2, .int (nI n)), (3, .int (nI 0))]) dX12_ahead_35 (by decide) rfl ?_
      refine x_pc (pc' := 37) rfl ?_
      refine x_aload_n dX12_ahead_37 1 rfl ?_
      refine x_cV (N := mX12_isHall) (d' := 0) (mc := 0) (ms := 0) (cb := 0) (sb := 0) (As := []) (st := []) dX12_ahead_38 mX12_isHall_v lX12_425 rfl rfl (hM.1) rfl (by decide) (Nat.le_of_ble_eq_true rfl) (Md_isHall hM) rfl (st1 := [.int (bI (decide (0 < hl 0 0)))]) rfl ?_
      refine x_ifB_eq (tgt := 61) dX12_ahead_41 (by decide) (fun c41 => ?_) (fun c41 => ?_)
      · exact absurd c41 (by rw [decide_eq_true h1]; decide)
      · refine x_iload dX12_ahead_44 0 rfl ?_
        refine x_ifN_eq (tgt := 61) dX12_ahead_46 (by decide) (by have := hB 0 0; have := hB 0 2; have := hB 0 3; have := hB 0 4; omega) (fun c46 => ?_) (fun c46 => ?_)
        · exact absurd c46 (by decide)
        · refine x_iload_n dX12_ahead_49 3 rfl ?_
          refine x_i2l dX12_ahead_50 ?_
          refine x_lconst (v := 0) dX12_ahead_51 rfl ?_
          refine x_ldc2 dX12_ahead_52 cX12_439 ?_
          refine x_cS (N := mX12_in) (d' := 0) (mc := 0) (ms := 0) (cb := 0) (sb := 0) (As := [.long ((nI n).toInt64), .long 0, .long (400 : Int64)]) (st := []) dX12_ahead_55 mX12_in_s lX12_155 rfl (by decide) (Nat.le_of_ble_eq_true rfl) (Md_in) rfl (st1 := [.int (bI (decide (0 ≤ (nI n).toInt64 ∧ (nI n).toInt64 ≤ (400 : Int64))))]) rfl ?_
          refine x_pc (pc' := 58) rfl ?_
          refine x_ifB_ne (tgt := 64) dX12_ahead_58 (by decide) (fun c58 => ?_) (fun c58 => ?_)
          · refine x_aload_n dX12_ahead_64 1 rfl ?_
            refine x_cVe (N := mX12_keepsAll) (d' := 2) (mc := 0) (ms := 0) (cb := 0) (sb := 0) (As := []) (st := []) dX12_ahead_65 mX12_keepsAll_v lX12_441 rfl rfl (hM.1) rfl (by decide) (Nat.le_of_ble_eq_true rfl) (Md_keepsAll hM) rfl (sf := fun G1 => []) (fun _ => rfl) (fun G1 hN1 => ?_)
            refine x_aload_n dX12_ahead_68 1 rfl ?_
            refine x_iload_n dX12_ahead_69 3 rfl ?_
            refine x_cVe (N := mX12_goFor) (d' := 8) (mc := 0) (ms := 0) (cb := 0) (sb := 0) (As := [.int (nI n)]) (st := []) dX12_ahead_70 mX12_goFor_v lX12_444 rfl rfl (hN1.1) rfl (by decide) (Nat.le_of_ble_eq_true rfl) (Md_goFor hN1 hO (hV.set (by omega)) hrow (by omega)) rfl (sf := fun e2 => []) (fun _ => rfl) (fun e2 hq2 => ?_)
            obtain ⟨⟨w2, k2⟩, G2⟩ := e2
            have hN2 : MW G0 G2 y hl (goN hl rv r n) sc (setA A 44 (svI (ovr A hl r sc) 3600 9)) (cF F 0 3650) w2 k2 := hq2
            refine x_iload_n dX12_ahead_73 4 rfl ?_
            refine x_ifN_ne (tgt := 86) dX12_ahead_74 (by decide) (by have := hB 0 0; have := hB 0 2; have := hB 0 3; have := hB 0 4; omega) (fun c74 => ?_) (fun c74 => ?_)
            · exact absurd c74 (by decide)
            · refine x_aload_n dX12_ahead_77 1 rfl ?_
              refine x_get (v := .ref (y + 13)) dX12_ahead_78 fX12_46 (hN2.1) rfl ?_
              refine x_pc (pc' := 81) rfl ?_
              refine x_iload_n dX12_ahead_81 2 rfl ?_
              refine x_ialdN (n := 7) (f := blk (goN hl rv r n) 21 7) dX12_ahead_82 (hN2.c13) (by omega) (by decide) ?_
              refine x_topi (y := (goN hl rv r n) (21 + t)) (blk_at (by omega)) ?_
              refine x_goto (tgt := 104) dX12_ahead_83 (by decide) ?_
              refine x_istore (ls' := [(5, .int ((goN hl rv r n) (21 + t))), (4, .int (nI 1)), (0, .ref y), (1, .int (nI t)), (2, .int (nI n)), (3, .int (nI 0))]) dX12_ahead_104 (by decide) rfl ?_
              refine x_aload_n dX12_ahead_106 2 rfl ?_
              refine x_cVe (N := mX12_laysBack) (d' := 2) (mc := 0) (ms := 0) (cb := 0) (sb := 0) (As := []) (st := []) dX12_ahead_107 mX12_laysBack_v lX12_450 rfl rfl (hN2.1) rfl (by decide) (Nat.le_of_ble_eq_true rfl) (Md_laysBack hN2 (Kept_sv (A := A)) hB) rfl (sf := fun G3 => []) (fun _ => rfl) (fun G3 hq3 => ?_)
              have hN3 : MW G0 G3 y hl r sc (setA A 44 (svI (ovr A hl r sc) 3600 9)) (cF F 1 3650) w2 k2 := by have e := hq3; rw [lbH_self] at e; exact e.fc rfl
              refine x_iload dX12_ahead_110 0 rfl ?_
              exact x_iret dX12_ahead_112 rfl (xEx_i ((w2, k2), G3) hN3 rfl rfl rfl)
          · exact absurd c58 (by rw [in_400, inR_nI (by omega), decide_eq_true (by omega)]; decide)
    · exact absurd c9 (by rw [inR_nI (by omega), decide_eq_true ht]; decide)
theorem Md_ahead_y1 {K : xG} {h y : Nat} {G0 G : xHp} {hl : xHl} {r : xRw} {sc : Nat × Nat × Int32} {A : Nat → Nat → Int32} {F : Nat → Int32} {wa sa : Nat → Int64} {t n : Nat} (hM : MW G0 G y hl r sc A F wa sa) {rv : Option (List Nat)} (hO : HallOk hl) (hV : RvR A sc rv) (hrow : RowOk hl r) (h1 : 0 < hl 0 0) (ht : t < hl 0 3) (hn : n ≤ 400) : xCall K mX12_ahead 9 0 0 [.ref y, .int (nI t), .int (nI n), .int (nI 1)] h G (mdX G0 h y (some (.int (goN hl rv r n (5 + t)))) hl r sc (setA A 44 (svI (ovr A hl r sc) 3600 9)) (cF F 1 3650)) := by
  refine x_entry (by decide) (ls := [(0, .ref y), (1, .int (nI t)), (2, .int (nI n)), (3, .int (nI 1))]) rfl (Nat.le_of_ble_eq_true rfl) ?_
  have hB := hM.hB
  obtain ⟨o2, o3, o4, o5, o6, o7, o8, o9⟩ := id hO
  refine x_iload_n dX12_ahead_0 3 rfl ?_
  refine x_ifN_ne (tgt := 12) dX12_ahead_1 (by decide) (by have := hB 0 0; have := hB 0 2; have := hB 0 3; have := hB 0 4; omega) (fun c1 => ?_) (fun c1 => ?_)
  · refine x_iload_n dX12_ahead_12 3 rfl ?_
    refine x_iconst dX12_ahead_13 ki_1 ?_
    refine x_icmpN_ne (tgt := 25) dX12_ahead_14 (by decide) (by have := hB 0 0; have := hB 0 2; have := hB 0 3; have := hB 0 4; omega) (by have := hB 0 0; have := hB 0 2; have := hB 0 3; have := hB 0 4; omega) (fun c14 => ?_) (fun c14 => ?_)
    · exact absurd c14 (by decide)
    · refine x_aload_n dX12_ahead_17 0 rfl ?_
      refine x_iload_n dX12_ahead_18 1 rfl ?_
      refine x_cV (N := mX12_isMender) (d' := 1) (mc := 0) (ms := 0) (cb := 0) (sb := 0) (As := [.int (nI t)]) (st := []) dX12_ahead_19 mX12_isMender_v lX12_364 rfl rfl (hM.1) rfl (by decide) (Nat.le_of_ble_eq_true rfl) (Md_isMender hM) rfl (st1 := [.int (bI (inR (nI t) (hl 0 3)))]) rfl ?_
      refine x_ifB_ne (tgt := 30) dX12_ahead_22 (by decide) (fun c22 => ?_) (fun c22 => ?_)
      · refine x_pc (pc' := 30) rfl ?_
        refine x_iconst dX12_ahead_30 ki_1 ?_
        refine x_goto (tgt := 35) dX12_ahead_31 (by decide) ?_
        refine x_istore (ls' := [(4, .int (nI 1)), (0, .ref y), (1, .int (nI t)), (2, .int (nI n)), (3, .int (nI 1))]) dX12_ahead_35 (by decide) rfl ?_
        refine x_aload_n dX12_ahead_37 1 rfl ?_
        refine x_cV (N := mX12_isHall) (d' := 0) (mc := 0) (ms := 0) (cb := 0) (sb := 0) (As := []) (st := []) dX12_ahead_38 mX12_isHall_v lX12_425 rfl rfl (hM.1) rfl (by decide) (Nat.le_of_ble_eq_true rfl) (Md_isHall hM) rfl (st1 := [.int (bI (decide (0 < hl 0 0)))]) rfl ?_
        refine x_ifB_eq (tgt := 61) dX12_ahead_41 (by decide) (fun c41 => ?_) (fun c41 => ?_)
        · exact absurd c41 (by rw [decide_eq_true h1]; decide)
        · refine x_iload dX12_ahead_44 0 rfl ?_
          refine x_ifN_eq (tgt := 61) dX12_ahead_46 (by decide) (by have := hB 0 0; have := hB 0 2; have := hB 0 3; have := hB 0 4; omega) (fun c46 => ?_) (fun c46 => ?_)
          · exact absurd c46 (by decide)
          · refine x_iload_n dX12_ahead_49 3 rfl ?_
            refine x_i2l dX12_ahead_50 ?_
            refine x_pc (pc' := 51) rfl ?_
            refine x_lconst (v := 0) dX12_ahead_51 rfl ?_
            refine x_ldc2 dX12_ahead_52 cX12_439 ?_
            refine x_cS (N := mX12_in) (d' := 0) (mc := 0) (ms := 0) (cb := 0) (sb := 0) (As := [.long ((nI n).toInt64), .long 0, .long (400 : Int64)]) (st := []) dX12_ahead_55 mX12_in_s lX12_155 rfl (by decide) (Nat.le_of_ble_eq_true rfl) (Md_in) rfl (st1 := [.int (bI (decide (0 ≤ (nI n).toInt64 ∧ (nI n).toInt64 ≤ (400 : Int64))))]) rfl ?_
            refine x_ifB_ne (tgt := 64) dX12_ahead_58 (by decide) (fun c58 => ?_) (fun c58 => ?_)
            · refine x_aload_n dX12_ahead_64 1 rfl ?_
              refine x_cVe (N := mX12_keepsAll) (d' := 2) (mc := 0) (ms := 0) (cb := 0) (sb := 0) (As := []) (st := []) dX12_ahead_65 mX12_keepsAll_v lX12_441 rfl rfl (hM.1) rfl (by decide) (Nat.le_of_ble_eq_true rfl) (Md_keepsAll hM) rfl (sf := fun G1 => []) (fun _ => rfl) (fun G1 hN1 => ?_)
              refine x_aload_n dX12_ahead_68 1 rfl ?_
              refine x_iload_n dX12_ahead_69 3 rfl ?_
              refine x_cVe (N := mX12_goFor) (d' := 8) (mc := 0) (ms := 0) (cb := 0) (sb := 0) (As := [.int (nI n)]) (st := []) dX12_ahead_70 mX12_goFor_v lX12_444 rfl rfl (hN1.1) rfl (by decide) (Nat.le_of_ble_eq_true rfl) (Md_goFor hN1 hO (hV.set (by omega)) hrow (by omega)) rfl (sf := fun e2 => []) (fun _ => rfl) (fun e2 hq2 => ?_)
              obtain ⟨⟨w2, k2⟩, G2⟩ := e2
              have hN2 : MW G0 G2 y hl (goN hl rv r n) sc (setA A 44 (svI (ovr A hl r sc) 3600 9)) (cF F 0 3650) w2 k2 := hq2
              refine x_iload_n dX12_ahead_73 4 rfl ?_
              refine x_pc (pc' := 74) rfl ?_
              refine x_ifN_ne (tgt := 86) dX12_ahead_74 (by decide) (by have := hB 0 0; have := hB 0 2; have := hB 0 3; have := hB 0 4; omega) (fun c74 => ?_) (fun c74 => ?_)
              · refine x_iload_n dX12_ahead_86 4 rfl ?_
                refine x_iconst dX12_ahead_87 ki_1 ?_
                refine x_icmpN_ne (tgt := 100) dX12_ahead_88 (by decide) (by have := hB 0 0; have := hB 0 2; have := hB 0 3; have := hB 0 4; omega) (by have := hB 0 0; have := hB 0 2; have := hB 0 3; have := hB 0 4; omega) (fun c88 => ?_) (fun c88 => ?_)
                · exact absurd c88 (by decide)
                · refine x_aload_n dX12_ahead_91 1 rfl ?_
                  refine x_get (v := .ref (y + 5)) dX12_ahead_92 fX12_22 (hN2.1) rfl ?_
                  refine x_iload_n dX12_ahead_95 2 rfl ?_
                  refine x_ialdN (n := 4) (f := blk (goN hl rv r n) 5 4) dX12_ahead_96 (hN2.c5) (by omega) (by decide) ?_
                  refine x_topi (y := (goN hl rv r n) (5 + t)) (blk_at (by omega)) ?_
                  refine x_goto (tgt := 104) dX12_ahead_97 (by decide) ?_
                  refine x_istore (ls' := [(5, .int ((goN hl rv r n) (5 + t))), (4, .int (nI 1)), (0, .ref y), (1, .int (nI t)), (2, .int (nI n)), (3, .int (nI 1))]) dX12_ahead_104 (by decide) rfl ?_
                  refine x_pc (pc' := 106) rfl ?_
                  refine x_aload_n dX12_ahead_106 2 rfl ?_
                  refine x_cVe (N := mX12_laysBack) (d' := 2) (mc := 0) (ms := 0) (cb := 0) (sb := 0) (As := []) (st := []) dX12_ahead_107 mX12_laysBack_v lX12_450 rfl rfl (hN2.1) rfl (by decide) (Nat.le_of_ble_eq_true rfl) (Md_laysBack hN2 (Kept_sv (A := A)) hB) rfl (sf := fun G3 => []) (fun _ => rfl) (fun G3 hq3 => ?_)
                  have hN3 : MW G0 G3 y hl r sc (setA A 44 (svI (ovr A hl r sc) 3600 9)) (cF F 1 3650) w2 k2 := by have e := hq3; rw [lbH_self] at e; exact e.fc rfl
                  refine x_iload dX12_ahead_110 0 rfl ?_
                  exact x_iret dX12_ahead_112 rfl (xEx_i ((w2, k2), G3) hN3 rfl rfl rfl)
              · exact absurd c74 (by decide)
            · exact absurd c58 (by rw [in_400, inR_nI (by omega), decide_eq_true (by omega)]; decide)
      · exact absurd c22 (by rw [inR_nI (by omega), decide_eq_true ht]; decide)
  · exact absurd c1 (by decide)
theorem Md_ahead_y2 {K : xG} {h y : Nat} {G0 G : xHp} {hl : xHl} {r : xRw} {sc : Nat × Nat × Int32} {A : Nat → Nat → Int32} {F : Nat → Int32} {wa sa : Nat → Int64} {n : Nat} {t : Int32} (hM : MW G0 G y hl r sc A F wa sa) {rv : Option (List Nat)} (hO : HallOk hl) (hV : RvR A sc rv) (hrow : RowOk hl r) (h1 : 0 < hl 0 0) (hn : n ≤ 400) : xCall K mX12_ahead 9 0 0 [.ref y, .int t, .int (nI n), .int (nI 2)] h G (mdX G0 h y (some (.int (savedS hl (goN hl rv r n)))) hl r sc (setA A 44 (svI (ovr A hl r sc) 3600 9)) (cF F 1 3650)) := by
  refine x_entry (by decide) (ls := [(0, .ref y), (1, .int t), (2, .int (nI n)), (3, .int (nI 2))]) rfl (Nat.le_of_ble_eq_true rfl) ?_
  have hB := hM.hB
  obtain ⟨o2, o3, o4, o5, o6, o7, o8, o9⟩ := id hO
  refine x_iload_n dX12_ahead_0 3 rfl ?_
  refine x_ifN_ne (tgt := 12) dX12_ahead_1 (by decide) (by have := hB 0 0; have := hB 0 2; have := hB 0 3; have := hB 0 4; omega) (fun c1 => ?_) (fun c1 => ?_)
  · refine x_iload_n dX12_ahead_12 3 rfl ?_
    refine x_iconst dX12_ahead_13 ki_1 ?_
    refine x_icmpN_ne (tgt := 25) dX12_ahead_14 (by decide) (by have := hB 0 0; have := hB 0 2; have := hB 0 3; have := hB 0 4; omega) (by have := hB 0 0; have := hB 0 2; have := hB 0 3; have := hB 0 4; omega) (fun c14 => ?_) (fun c14 => ?_)
    · refine x_iload_n dX12_ahead_25 3 rfl ?_
      refine x_iconst dX12_ahead_26 ki_2 ?_
      refine x_icmpN_ne (tgt := 34) dX12_ahead_27 (by decide) (by have := hB 0 0; have := hB 0 2; have := hB 0 3; have := hB 0 4; omega) (by have := hB 0 0; have := hB 0 2; have := hB 0 3; have := hB 0 4; omega) (fun c27 => ?_) (fun c27 => ?_)
      · exact absurd c27 (by decide)
      · refine x_iconst dX12_ahead_30 ki_1 ?_
        refine x_pc (pc' := 31) rfl ?_
        refine x_goto (tgt := 35) dX12_ahead_31 (by decide) ?_
        refine x_istore (ls' := [(4, .int (nI 1)), (0, .ref y), (1, .int t), (2, .int (nI n)), (3, .int (nI 2))]) dX12_ahead_35 (by decide) rfl ?_
        refine x_aload_n dX12_ahead_37 1 rfl ?_
        refine x_cV (N := mX12_isHall) (d' := 0) (mc := 0) (ms := 0) (cb := 0) (sb := 0) (As := []) (st := []) dX12_ahead_38 mX12_isHall_v lX12_425 rfl rfl (hM.1) rfl (by decide) (Nat.le_of_ble_eq_true rfl) (Md_isHall hM) rfl (st1 := [.int (bI (decide (0 < hl 0 0)))]) rfl ?_
        refine x_ifB_eq (tgt := 61) dX12_ahead_41 (by decide) (fun c41 => ?_) (fun c41 => ?_)
        · exact absurd c41 (by rw [decide_eq_true h1]; decide)
        · refine x_iload dX12_ahead_44 0 rfl ?_
          refine x_ifN_eq (tgt := 61) dX12_ahead_46 (by decide) (by have := hB 0 0; have := hB 0 2; have := hB 0 3; have := hB 0 4; omega) (fun c46 => ?_) (fun c46 => ?_)
          · exact absurd c46 (by decide)
          · refine x_iload_n dX12_ahead_49 3 rfl ?_
            refine x_i2l dX12_ahead_50 ?_
            refine x_lconst (v := 0) dX12_ahead_51 rfl ?_
            refine x_pc (pc' := 52) rfl ?_
            refine x_ldc2 dX12_ahead_52 cX12_439 ?_
            refine x_cS (N := mX12_in) (d' := 0) (mc := 0) (ms := 0) (cb := 0) (sb := 0) (As := [.long ((nI n).toInt64), .long 0, .long (400 : Int64)]) (st := []) dX12_ahead_55 mX12_in_s lX12_155 rfl (by decide) (Nat.le_of_ble_eq_true rfl) (Md_in) rfl (st1 := [.int (bI (decide (0 ≤ (nI n).toInt64 ∧ (nI n).toInt64 ≤ (400 : Int64))))]) rfl ?_
            refine x_ifB_ne (tgt := 64) dX12_ahead_58 (by decide) (fun c58 => ?_) (fun c58 => ?_)
            · refine x_aload_n dX12_ahead_64 1 rfl ?_
              refine x_cVe (N := mX12_keepsAll) (d' := 2) (mc := 0) (ms := 0) (cb := 0) (sb := 0) (As := []) (st := []) dX12_ahead_65 mX12_keepsAll_v lX12_441 rfl rfl (hM.1) rfl (by decide) (Nat.le_of_ble_eq_true rfl) (Md_keepsAll hM) rfl (sf := fun G1 => []) (fun _ => rfl) (fun G1 hN1 => ?_)
              refine x_aload_n dX12_ahead_68 1 rfl ?_
              refine x_iload_n dX12_ahead_69 3 rfl ?_
              refine x_cVe (N := mX12_goFor) (d' := 8) (mc := 0) (ms := 0) (cb := 0) (sb := 0) (As := [.int (nI n)]) (st := []) dX12_ahead_70 mX12_goFor_v lX12_444 rfl rfl (hN1.1) rfl (by decide) (Nat.le_of_ble_eq_true rfl) (Md_goFor hN1 hO (hV.set (by omega)) hrow (by omega)) rfl (sf := fun e2 => []) (fun _ => rfl) (fun e2 hq2 => ?_)
              obtain ⟨⟨w2, k2⟩, G2⟩ := e2
              have hN2 : MW G0 G2 y hl (goN hl rv r n) sc (setA A 44 (svI (ovr A hl r sc) 3600 9)) (cF F 0 3650) w2 k2 := hq2
              refine x_iload_n dX12_ahead_73 4 rfl ?_
              refine x_ifN_ne (tgt := 86) dX12_ahead_74 (by decide) (by have := hB 0 0; have := hB 0 2; have := hB 0 3; have := hB 0 4; omega) (fun c74 => ?_) (fun c74 => ?_)
              · refine x_pc (pc' := 86) rfl ?_
                refine x_iload_n dX12_ahead_86 4 rfl ?_
                refine x_iconst dX12_ahead_87 ki_1 ?_
                refine x_icmpN_ne (tgt := 100) dX12_ahead_88 (by decide) (by have := hB 0 0; have := hB 0 2; have := hB 0 3; have := hB 0 4; omega) (by have := hB 0 0; have := hB 0 2; have := hB 0 3; have := hB 0 4; omega) (fun c88 => ?_) (fun c88 => ?_)
                · refine x_aload_n dX12_ahead_100 1 rfl ?_
                  refine x_cV (N := mX12_saved) (d' := 0) (mc := 0) (ms := 0) (cb := 0) (sb := 0) (As := []) (st := []) dX12_ahead_101 mX12_saved_v lX12_447 rfl rfl (hN2.1) rfl (by decide) (Nat.le_of_ble_eq_true rfl) (Md_saved hN2 o4) rfl (st1 := [.int (savedS hl (goN hl rv r n))]) rfl ?_
                  refine x_istore (ls' := [(5, .int (savedS hl (goN hl rv r n))), (4, .int (nI 1)), (0, .ref y), (1, .int t), (2, .int (nI n)), (3, .int (nI 2))]) dX12_ahead_104 (by decide) rfl ?_
                  refine x_aload_n dX12_ahead_106 2 rfl ?_
                  refine x_cVe (N := mX12_laysBack) (d' := 2) (mc := 0) (ms := 0) (cb := 0) (sb := 0) (As := []) (st := []) dX12_ahead_107 mX12_laysBack_v lX12_450 rfl rfl (hN2.1) rfl (by decide) (Nat.le_of_ble_eq_true rfl) (Md_laysBack hN2 (Kept_sv (A := A)) hB) rfl (sf := fun G3 => []) (fun _ => rfl) (fun G3 hq3 => ?_)
                  have hN3 : MW G0 G3 y hl r sc (setA A 44 (svI (ovr A hl r sc) 3600 9)) (cF F 1 3650) w2 k2 := by have e := hq3; rw [lbH_self] at e; exact e.fc rfl
                  refine x_iload dX12_ahead_110 0 rfl ?_
                  exact x_iret dX12_ahead_112 rfl (xEx_i ((w2, k2), G3) hN3 rfl rfl rfl)
                · exact absurd c88 (by decide)
              · exact absurd c74 (by decide)
            · exact absurd c58 (by rw [in_400, inR_nI (by omega), decide_eq_true (by omega)]; decide)
    · exact absurd c14 (by decide)
  · exact absurd c1 (by decide)
theorem Md_take_n {K : xG} {h y : Nat} {G0 G : xHp} {hl : xHl} {r : xRw} {sc : Nat × Nat × Int32} {A : Nat → Nat → Int32} {F : Nat → Int32} {wa sa : Nat → Int64} {v w : Int32} (hM : MW G0 G y hl r sc A F wa sa) (hO : HallOk hl) (hn : ¬ (inR v (hl 0 3) = true ∧ r (5 + thN v) = -1 ∧ inR w 2 = true)) : xCall K mX12_take 12 0 0 [.ref y, .int v, .int w] h G (xRet (some (.int (-2))) h G) := by
  refine x_entry (by decide) (ls := [(0, .ref y), (1, .int v), (2, .int w)]) rfl (Nat.le_of_ble_eq_true rfl) ?_
  have hB := hM.hB
  obtain ⟨o2, o3, o4, o5, o6, o7, o8, o9⟩ := id hO
  refine x_aload_n dX12_take_0 0 rfl ?_
  refine x_iload_n dX12_take_1 1 rfl ?_
  refine x_cV (N := mX12_isFree) (d' := 2) (mc := 0) (ms := 0) (cb := 0) (sb := 0) (As := [.int v]) (st := []) dX12_take_2 mX12_isFree_v lX12_431 rfl rfl (hM.1) rfl (by decide) (Nat.le_of_ble_eq_true rfl) (Md_isFree hM o3) rfl (st1 := [.int (bI (inR v (hl 0 3) && decide (r (5 + thN v) = -1)))]) rfl ?_
  refine x_ifB_eq (tgt := 18) dX12_take_5 (by decide) (fun c5 => ?_) (fun c5 => ?_)
  · refine x_bipush dX12_take_18 kb_m2 ?_
    exact x_iret dX12_take_20 rfl (xRet_i)
  · have hc5 := c5
    rw [Bool.and_eq_true] at hc5
    obtain ⟨h5a, h5b⟩ := hc5
    refine x_iload_n dX12_take_8 2 rfl ?_
    refine x_i2l dX12_take_9 ?_
    refine x_lconst (v := 0) dX12_take_10 rfl ?_
    refine x_lconst (v := 1) dX12_take_11 rfl ?_
    refine x_cS (N := mX12_in) (d' := 0) (mc := 0) (ms := 0) (cb := 0) (sb := 0) (As := [.long w.toInt64, .long 0, .long 1]) (st := []) dX12_take_12 mX12_in_s lX12_155 rfl (by decide) (Nat.le_of_ble_eq_true rfl) (Md_in) rfl (st1 := [.int (bI (decide (0 ≤ w.toInt64 ∧ w.toInt64 ≤ 1)))]) rfl ?_
    refine x_pc (pc' := 15) rfl ?_
    refine x_ifB_ne (tgt := 21) dX12_take_15 (by decide) (fun c15 => ?_) (fun c15 => ?_)
    · exact absurd ⟨h5a, of_decide_eq_true h5b, (in_01 w).symm.trans c15⟩ hn
    · refine x_bipush dX12_take_18 kb_m2 ?_
      exact x_iret dX12_take_20 rfl (xRet_i)
theorem Md_part_n {K : xG} {h y : Nat} {G0 G : xHp} {hl : xHl} {r : xRw} {sc : Nat × Nat × Int32} {A : Nat → Nat → Int32} {F : Nat → Int32} {wa sa : Nat → Int64} {w : Int32} (hM : MW G0 G y hl r sc A F wa sa) (hO : HallOk hl) (hn : ¬ (0 < hl 0 0 ∧ inR w 2 = true)) : xCall K mX12_part 12 0 0 [.ref y, .int w] h G (xRet (some (.int (-2))) h G) := by
  refine x_entry (by decide) (ls := [(0, .ref y), (1, .int w)]) rfl (Nat.le_of_ble_eq_true rfl) ?_
  have hB := hM.hB
  obtain ⟨o2, o3, o4, o5, o6, o7, o8, o9⟩ := id hO
  refine x_aload_n dX12_part_0 0 rfl ?_
  refine x_cV (N := mX12_isHall) (d' := 0) (mc := 0) (ms := 0) (cb := 0) (sb := 0) (As := []) (st := []) dX12_part_1 mX12_isHall_v lX12_425 rfl rfl (hM.1) rfl (by decide) (Nat.le_of_ble_eq_true rfl) (Md_isHall hM) rfl (st1 := [.int (bI (decide (0 < hl 0 0)))]) rfl ?_
  refine x_ifB_eq (tgt := 17) dX12_part_4 (by decide) (fun c4 => ?_) (fun c4 => ?_)
  · refine x_bipush dX12_part_17 kb_m2 ?_
    exact x_iret dX12_part_19 rfl (xRet_i)
  · refine x_iload_n dX12_part_7 1 rfl ?_
    refine x_i2l dX12_part_8 ?_
    refine x_lconst (v := 0) dX12_part_9 rfl ?_
    refine x_lconst (v := 1) dX12_part_10 rfl ?_
    refine x_cS (N := mX12_in) (d' := 0) (mc := 0) (ms := 0) (cb := 0) (sb := 0) (As := [.long w.toInt64, .long 0, .long 1]) (st := []) dX12_part_11 mX12_in_s lX12_155 rfl (by decide) (Nat.le_of_ble_eq_true rfl) (Md_in) rfl (st1 := [.int (bI (decide (0 ≤ w.toInt64 ∧ w.toInt64 ≤ 1)))]) rfl ?_
    refine x_ifB_ne (tgt := 20) dX12_part_14 (by decide) (fun c14 => ?_) (fun c14 => ?_)
    · exact absurd ⟨of_decide_eq_true c4, (in_01 w).symm.trans c14⟩ hn
    · refine x_pc (pc' := 17) rfl ?_
      refine x_bipush dX12_part_17 kb_m2 ?_
      exact x_iret dX12_part_19 rfl (xRet_i)
