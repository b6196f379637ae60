theorem Asks_startTrials {K : xG} {h x : Nat} {G0 G : xHp} {hl : xHl} {r : xRw} {ru : Option Nat} {hk : xHl} {rk : xRw} {rt : Option Nat} {ch mo : Int32} (hN : DayAt G0 (x + 26) hl r (x + 16) ru) (hT : TrW G0 G x hk rk rt ch mo) : xCall K mX0_startTrials 3 0 0 [.ref (x + 36)] h G (trQ G0 h x none hl r ru ch (-1)) := by
  refine x_entry (by decide) (ls := [(0, .ref (x + 36))]) rfl (Nat.le_of_ble_eq_true rfl) ?_
  have hNz := hT.now hN
  refine x_aload_n dX0_startTrials_0 0 rfl ?_
  refine x_get dX0_startTrials_1 fX0_20 (hT.1) rfl ?_
  refine x_aload_n dX0_startTrials_4 0 rfl ?_
  refine x_get dX0_startTrials_5 fX0_9 (hT.1) rfl ?_
  refine x_cVe (N := mX2_copy) (d' := 2) (mc := 0) (ms := 0) (cb := 0) (sb := 0) (As := [.ref (x + 26)]) (st := []) dX0_startTrials_8 mX2_copy_v lX0_32 rfl rfl (hT.2.1.1) rfl (by decide) (Nat.le_of_ble_eq_true rfl) (Tr_copy hN hT) rfl (sf := fun G1 => []) (fun _ => rfl) (fun G1 hT1 => ?_)
  have hN1 := hT1.now hN
  refine x_aload_n dX0_startTrials_11 0 rfl ?_
  refine x_iconst dX0_startTrials_12 ki_m1 ?_
  refine x_put (fs' := [.ref (x + 26), .ref (x + 37), .ref (x + 47), .int ch, .int (-1)]) dX0_startTrials_13 fX0_97 (hT1.1) (Nat.le_of_ble_eq_true rfl) rfl rfl rfl ?_
  exact x_vret dX0_startTrials_16 rfl (xEx_i _ (hT1.obj ch (-1)) rfl rfl rfl)
theorem Asks_tryChoice {K : xG} {h x : Nat} {G0 G : xHp} {rv : Option (List Nat)} {w : Int32} {hk : xHl} {rk : xRw} {rt : Option Nat} {ch mo : Int32} (hT : TrW G0 G x hk rk rt ch mo) (hR : RuleIn G0 rt rv (x + 51)) (hO : HallOk hk) (hrow : RowOk hk rk) : xCall K mX0_tryChoice 5 0 0 [.ref (x + 36), .int w] h G (xEx (fun e : xRw × xHp => TrW G0 e.2 x hk e.1 rt (if mo < savG hk rv rk then w else ch) (if mo < savG hk rv rk then savG hk rv rk else mo)) (fun _ => none) (fun _ => h) (fun e => e.2)) := by
  refine x_entry (by decide) (ls := [(0, .ref (x + 36)), (1, .int w)]) rfl (Nat.le_of_ble_eq_true rfl) ?_
  refine x_aload_n dX0_tryChoice_0 0 rfl ?_
  refine x_get dX0_tryChoice_1 fX0_20 (hT.1) rfl ?_
  refine x_sipush dX0_tryChoice_4 ks_400 ?_
  refine x_cVe (N := mX2_goFar) (d' := 4) (mc := 0) (ms := 0) (cb := 0) (sb := 0) (As := [.int (nI 400)]) (st := []) dX0_tryChoice_7 mX2_goFar_v lX0_35 rfl rfl (hT.2.1.1) rfl (by decide) (Nat.le_of_ble_eq_true rfl) (Tr_goFar hT hR hO hrow (by decide)) rfl (sf := fun e1 => []) (fun _ => rfl) (fun e1 hq1 => ?_)
  obtain ⟨⟨hv1, hok1⟩, hT1⟩ := hq1
  obtain ⟨r1, G1⟩ := e1
  simp only at hv1 hok1 hT1
  refine x_aload_n dX0_tryChoice_10 0 rfl ?_
  refine x_get dX0_tryChoice_11 fX0_20 (hT1.1) rfl ?_
  refine x_cV (N := mX2_saved) (d' := 0) (mc := 0) (ms := 0) (cb := 0) (sb := 0) (As := []) (st := []) dX0_tryChoice_14 mX2_saved_v lX0_100 rfl rfl (hT1.2.1.1) rfl (by decide) (Nat.le_of_ble_eq_true rfl) (Day_saved hT1.2.1 hO) rfl (st1 := [.int (savedS hk r1)]) rfl ?_
  refine x_topi (y := savG hk rv rk) hv1.saved ?_
  refine x_istore_n (ls' := [(2, .int (savG hk rv rk)), (0, .ref (x + 36)), (1, .int w)]) dX0_tryChoice_17 (by decide) rfl ?_
  refine x_iload_n dX0_tryChoice_18 0 rfl ?_
  refine x_pc (pc' := 19) rfl ?_
  refine x_aload_n dX0_tryChoice_19 1 rfl ?_
  refine x_get dX0_tryChoice_20 fX0_97 (hT1.1) rfl ?_
  refine x_icmp_le (x := savG hk rv rk) (y := mo) (tgt := 36) dX0_tryChoice_23 (by decide) (fun c23 => ?_) (fun c23 => ?_)
  · exact x_vret dX0_tryChoice_36 rfl (xEx_i (r1, G1) (by rw [if_neg (Int32.not_lt.mpr c23), if_neg (Int32.not_lt.mpr c23)]; exact hT1) rfl rfl rfl)
  · refine x_aload_n dX0_tryChoice_26 1 rfl ?_
    refine x_iload_n dX0_tryChoice_27 0 rfl ?_
    refine x_put (fs' := [.ref (x + 26), .ref (x + 37), .ref (x + 47), .int ch, .int (savG hk rv rk)]) dX0_tryChoice_28 fX0_97 (hT1.1) (Nat.le_of_ble_eq_true rfl) rfl rfl rfl ?_
    refine x_aload_n dX0_tryChoice_31 1 rfl ?_
    refine x_iload_n dX0_tryChoice_32 2 rfl ?_
    refine x_put (fs' := [.ref (x + 26), .ref (x + 37), .ref (x + 47), .int w, .int (savG hk rv rk)]) dX0_tryChoice_33 fX0_103 (xup_eq) (Nat.le_of_ble_eq_true rfl) rfl rfl rfl ?_
    refine x_geq xup_up ?_
    exact x_vret dX0_tryChoice_36 rfl (xEx_i (r1, xup G1 (x + 36) (eO 0 [.ref (x + 26), .ref (x + 37), .ref (x + 47), .int w, .int (savG hk rv rk)])) (by rw [if_pos (Int32.not_le.mp c23), if_pos (Int32.not_le.mp c23)]; exact hT1.obj _ _) rfl rfl rfl)
theorem Asks_findTake_loop {K : xG} {h x : Nat} {G0 : xHp} {hl : xHl} {r : xRw} {ru : Option Nat} {rv : Option (List Nat)} {q : Nat} (hN : DayAt G0 (x + 26) hl r (x + 16) ru) (hR : RuleIn G0 ru rv (x + 51)) (hO : HallOk hl) (hrow : RowOk hl r) (hq : q < hl 0 3) (hf : r (5 + q) = -1) : ∀ (k t : Nat) (G1 : xHp) (hk : xHl) (rk : xRw) (rt : Option Nat), t + k = hl 0 4 → TrW G0 G1 x hk rk rt (tryF rv (candT hl r q) (-1, savG hl rv r) t).1 (tryF rv (candT hl r q) (-1, savG hl rv r) t).2 → xV K mX0_findTake 6 0 0 h G1 11 [(2, .int (nI t)), (0, .ref (x + 36)), (1, .int (nI q))] [] (xEx (fun e : (xHl × xRw × Option Nat) × xHp => TrW G0 e.2 x e.1.1 e.1.2.1 e.1.2.2 (tryF rv (candT hl r q) (-1, savG hl rv r) (hl 0 4)).1 (tryF rv (candT hl r q) (-1, savG hl rv r) (hl 0 4)).2) (fun _ => none) (fun _ => h) (fun e => e.2)) := by
  have hB := hN.2.1.2.2.2.2.2.2.2.2
  obtain ⟨o2, o3, o4, o5, -⟩ := id hO
  intro k
  induction k with
  | zero =>
    intro t G1 hk rk rt hv hT1
    have hN1 := hT1.now hN
    have hv0 : t = hl 0 4 := by omega
    subst hv0
    refine x_iload_n dX0_findTake_11 0 rfl ?_
    refine x_aload_n dX0_findTake_12 1 rfl ?_
    refine x_get dX0_findTake_13 fX0_9 (hT1.1) rfl ?_
    refine x_get dX0_findTake_16 fX0_57 (hN1.1) rfl ?_
    refine x_get dX0_findTake_19 fX0_72 (hN1.2.1.1) rfl ?_
    refine x_icmpN_ge (tgt := 68) dX0_findTake_22 (by decide) (by have := hB 0 2; have := hB 0 3; have := hB 0 4; omega) (by have := hB 0 2; have := hB 0 3; have := hB 0 4; omega) (fun c22 => ?_) (fun c22 => ?_)
    · exact x_vret dX0_findTake_68 rfl (xEx_i ((hk, rk, rt), G1) hT1 rfl rfl rfl)
    · exact absurd c22 (by omega)
  | succ k ih =>
    intro t G1 hk rk rt hv hT1
    have hN1 := hT1.now hN
    refine x_iload_n dX0_findTake_11 0 rfl ?_
    refine x_aload_n dX0_findTake_12 1 rfl ?_
    refine x_get dX0_findTake_13 fX0_9 (hT1.1) rfl ?_
    refine x_get dX0_findTake_16 fX0_57 (hN1.1) rfl ?_
    refine x_get dX0_findTake_19 fX0_72 (hN1.2.1.1) rfl ?_
    refine x_icmpN_ge (tgt := 68) dX0_findTake_22 (by decide) (by have := hB 0 2; have := hB 0 3; have := hB 0 4; omega) (by have := hB 0 2; have := hB 0 3; have := hB 0 4; omega) (fun c22 => ?_) (fun c22 => ?_)
    · exact absurd c22 (by omega)
    · refine x_aload_n dX0_findTake_25 1 rfl ?_
      refine x_get dX0_findTake_26 fX0_9 (hT1.1) rfl ?_
      refine x_iload_n dX0_findTake_29 2 rfl ?_
      refine x_pc (pc' := 30) rfl ?_
      refine x_iload_n dX0_findTake_30 0 rfl ?_
      refine x_cV (N := mX2_canTake) (d' := 1) (mc := 0) (ms := 0) (cb := 0) (sb := 0) (As := [.int (nI q), .int (nI t)]) (st := []) dX0_findTake_31 mX2_canTake_v lX0_76 rfl rfl (hN1.1) rfl (by decide) (Nat.le_of_ble_eq_true rfl) (Day_canTake hN1 (by omega) (by omega) (by have := (o5 t (by omega)).1; omega)) rfl (st1 := [.int (bI (canT hl r q t))]) rfl ?_
      refine x_ifB_eq (tgt := 62) dX0_findTake_34 (by decide) (fun c34 => ?_) (fun c34 => ?_)
      · refine x_iinc (v := nI (t + 1)) (ls' := [(2, .int (nI (t + 1))), (0, .ref (x + 36)), (1, .int (nI q))]) dX0_findTake_62 0 rfl (nIs _) (by decide) rfl ?_
        refine x_goto (tgt := 11) dX0_findTake_65 (by decide) ?_
        have hc : candT hl r q t = none := if_neg (by rw [c34]; decide)
        exact ih (t + 1) G1 hk rk rt (by omega) (by rw [tryF_n hc]; exact hT1)
      · refine x_aload_n dX0_findTake_37 1 rfl ?_
        refine x_get dX0_findTake_38 fX0_20 (hT1.1) rfl ?_
        refine x_aload_n dX0_findTake_41 1 rfl ?_
        refine x_get dX0_findTake_42 fX0_9 (hT1.1) rfl ?_
        refine x_cVe (N := mX2_copy) (d' := 2) (mc := 0) (ms := 0) (cb := 0) (sb := 0) (As := [.ref (x + 26)]) (st := []) dX0_findTake_45 mX2_copy_v lX0_32 rfl rfl (hT1.2.1.1) rfl (by decide) (Nat.le_of_ble_eq_true rfl) (Tr_copy hN hT1) rfl (sf := fun G2 => []) (fun _ => rfl) (fun G2 hT2 => ?_)
        have hN2 := hT2.now hN
        refine x_aload_n dX0_findTake_48 1 rfl ?_
        refine x_get dX0_findTake_49 fX0_20 (hT2.1) rfl ?_
        refine x_pc (pc' := 52) rfl ?_
        refine x_iload_n dX0_findTake_52 2 rfl ?_
        refine x_iload_n dX0_findTake_53 0 rfl ?_
        refine x_cVe (N := mX2_begin) (d' := 1) (mc := 0) (ms := 0) (cb := 0) (sb := 0) (As := [.int (nI q), .int (nI t)]) (st := []) dX0_findTake_54 mX2_begin_v lX0_80 rfl rfl (hT2.2.1.1) rfl (by decide) (Nat.le_of_ble_eq_true rfl) (Tr_begin hT2 (by omega) (by omega) (by have := (o5 t (by omega)).1; omega)) rfl (sf := fun G3 => []) (fun _ => rfl) (fun G3 hT3 => ?_)
        have hN3 := hT3.now hN
        refine x_aload_n dX0_findTake_57 1 rfl ?_
        refine x_iload_n dX0_findTake_58 0 rfl ?_
        refine x_cVe (N := mX0_tryChoice) (d' := 5) (mc := 0) (ms := 0) (cb := 0) (sb := 0) (As := [.int (nI t)]) (st := []) dX0_findTake_59 mX0_tryChoice_v lX0_69 rfl rfl (hT3.1) rfl (by decide) (Nat.le_of_ble_eq_true rfl) (Asks_tryChoice hT3 hR hO (begin_ok hO hrow hq hf (by omega) c34)) rfl (sf := fun e4 => []) (fun _ => rfl) (fun e4 hq4 => ?_)
        obtain ⟨r4, G4⟩ := e4
        have hT4 : TrW G0 G4 x _ r4 _ _ _ := hq4
        refine x_iinc (v := nI (t + 1)) (ls' := [(2, .int (nI (t + 1))), (0, .ref (x + 36)), (1, .int (nI q))]) dX0_findTake_62 0 rfl (nIs _) (by decide) rfl ?_
        refine x_goto (tgt := 11) dX0_findTake_65 (by decide) ?_
        have hc : candT hl r q t = some (hl, beginR hl r q t) := if_pos c34
        exact ih (t + 1) G4 hl r4 ru (by omega) (by rw [tryF_s hc]; split at hT4 <;> rename_i hh <;> simp only [hh, if_true, if_false] <;> exact hT4)
theorem Asks_findTake {K : xG} {h x : Nat} {G0 G : xHp} {hl : xHl} {r : xRw} {ru : Option Nat} {rv : Option (List Nat)}{hk : xHl} {rk : xRw} {rt : Option Nat} {ch mo : Int32} {q : Nat} (hN : DayAt G0 (x + 26) hl r (x + 16) ru) (hT : TrW G0 G x hk rk rt ch mo) (hR : RuleIn G0 ru rv (x + 51)) (hO : HallOk hl) (hrow : RowOk hl r) (hq : q < hl 0 3) (hf : r (5 + q) = -1) : xCall K mX0_findTake 6 0 0 [.ref (x + 36), .int (nI q)] h G (xEx (fun e : (xHl × xRw × Option Nat) × xHp => TrW G0 e.2 x e.1.1 e.1.2.1 e.1.2.2 (tryF rv (candT hl r q) (-1, savG hl rv r) (hl 0 4)).1 (tryF rv (candT hl r q) (-1, savG hl rv r) (hl 0 4)).2) (fun _ => none) (fun _ => h) (fun e => e.2)) := by
  refine x_entry (by decide) (ls := [(0, .ref (x + 36)), (1, .int (nI q))]) rfl (Nat.le_of_ble_eq_true rfl) ?_
  have hNz := hT.now hN
  have hB := hN.2.1.2.2.2.2.2.2.2.2
  refine x_aload_n dX0_findTake_0 0 rfl ?_
  refine x_cVe (N := mX0_startTrials) (d' := 3) (mc := 0) (ms := 0) (cb := 0) (sb := 0) (As := []) (st := []) dX0_findTake_1 mX0_startTrials_v lX0_66 rfl rfl (hT.1) rfl (by decide) (Nat.le_of_ble_eq_true rfl) (Asks_startTrials hN hT) rfl (sf := fun G1 => []) (fun _ => rfl) (fun G1 hT1 => ?_)
  have hN1 := hT1.now hN
  refine x_aload_n dX0_findTake_4 0 rfl ?_
  refine x_iconst dX0_findTake_5 ki_m1 ?_
  refine x_cVe (N := mX0_tryChoice) (d' := 5) (mc := 0) (ms := 0) (cb := 0) (sb := 0) (As := [.int (-1)]) (st := []) dX0_findTake_6 mX0_tryChoice_v lX0_69 rfl rfl (hT1.1) rfl (by decide) (Nat.le_of_ble_eq_true rfl) (Asks_tryChoice hT1 hR hO hrow) rfl (sf := fun e2 => []) (fun _ => rfl) (fun e2 hq2 => ?_)
  obtain ⟨r2, G2⟩ := e2
  have hT2 : TrW G0 G2 x _ r2 _ _ _ := hq2
  rw [if_pos (saved_posG hO), if_pos (saved_posG hO)] at hT2
  have hN2 := hT2.now hN
  refine x_iconst dX0_findTake_9 ki_0 ?_
  refine x_istore_n (ls' := [(2, .int (nI 0)), (0, .ref (x + 36)), (1, .int (nI q))]) dX0_findTake_10 (by decide) rfl ?_
  exact Asks_findTake_loop hN hR hO hrow hq hf (hl 0 4) 0 G2 hl r2 ru (by omega) hT2
theorem Asks_findPart_loop {K : xG} {h x : Nat} {G0 : xHp} {hl : xHl} {r : xRw} {ru : Option Nat} {rv : Option (List Nat)} (hN : DayAt G0 (x + 26) hl r (x + 16) ru) (hR : RuleIn G0 ru rv (x + 51)) (hO : HallOk hl) (hrow : RowOk hl r) (hpp : ∀ s, s < hl 0 2 → ∃ p, p ≤ 100 ∧ r (1 + s) = nI p) : ∀ (k t : Nat) (G1 : xHp) (hk : xHl) (rk : xRw) (rt : Option Nat), t + k = hl 0 2 → TrW G0 G1 x hk rk rt (tryF rv (fun s => some (hl, partR r s)) (-1, savG hl rv r) t).1 (tryF rv (fun s => some (hl, partR r s)) (-1, savG hl rv r) t).2 → xV K mX0_findPart 6 0 0 h G1 11 [(1, .int (nI t)), (0, .ref (x + 36))] [] (xEx (fun e : (xHl × xRw × Option Nat) × xHp => TrW G0 e.2 x e.1.1 e.1.2.1 e.1.2.2 (tryF rv (fun s => some (hl, partR r s)) (-1, savG hl rv r) (hl 0 2)).1 (tryF rv (fun s => some (hl, partR r s)) (-1, savG hl rv r) (hl 0 2)).2) (fun _ => none) (fun _ => h) (fun e => e.2)) := by
  have hB := hN.2.1.2.2.2.2.2.2.2.2
  obtain ⟨o2, o3, o4, o5, -⟩ := id hO
  intro k
  induction k with
  | zero =>
    intro t G1 hk rk rt hv hT1
    have hN1 := hT1.now hN
    have hv0 : t = hl 0 2 := by omega
    subst hv0
    refine x_iload_n dX0_findPart_11 0 rfl ?_
    refine x_aload_n dX0_findPart_12 1 rfl ?_
    refine x_get dX0_findPart_13 fX0_9 (hT1.1) rfl ?_
    refine x_get dX0_findPart_16 fX0_57 (hN1.1) rfl ?_
    refine x_get dX0_findPart_19 fX0_84 (hN1.2.1.1) rfl ?_
    refine x_icmpN_ge (tgt := 62) dX0_findPart_22 (by decide) (by have := hB 0 2; have := hB 0 3; have := hB 0 4; omega) (by have := hB 0 2; have := hB 0 3; have := hB 0 4; omega) (fun c22 => ?_) (fun c22 => ?_)
    · exact x_vret dX0_findPart_62 rfl (xEx_i ((hk, rk, rt), G1) hT1 rfl rfl rfl)
    · exact absurd c22 (by omega)
  | succ k ih =>
    intro t G1 hk rk rt hv hT1
    have hN1 := hT1.now hN
    refine x_iload_n dX0_findPart_11 0 rfl ?_
    refine x_aload_n dX0_findPart_12 1 rfl ?_
    refine x_get dX0_findPart_13 fX0_9 (hT1.1) rfl ?_
    refine x_get dX0_findPart_16 fX0_57 (hN1.1) rfl ?_
    refine x_get dX0_findPart_19 fX0_84 (hN1.2.1.1) rfl ?_
    refine x_icmpN_ge (tgt := 62) dX0_findPart_22 (by decide) (by have := hB 0 2; have := hB 0 3; have := hB 0 4; omega) (by have := hB 0 2; have := hB 0 3; have := hB 0 4; omega) (fun c22 => ?_) (fun c22 => ?_)
    · exact absurd c22 (by omega)
    · refine x_aload_n dX0_findPart_25 1 rfl ?_
      refine x_get dX0_findPart_26 fX0_20 (hT1.1) rfl ?_
      refine x_aload_n dX0_findPart_29 1 rfl ?_
      refine x_pc (pc' := 30) rfl ?_
      refine x_get dX0_findPart_30 fX0_9 (hT1.1) rfl ?_
      refine x_cVe (N := mX2_copy) (d' := 2) (mc := 0) (ms := 0) (cb := 0) (sb := 0) (As := [.ref (x + 26)]) (st := []) dX0_findPart_33 mX2_copy_v lX0_32 rfl rfl (hT1.2.1.1) rfl (by decide) (Nat.le_of_ble_eq_true rfl) (Tr_copy hN hT1) rfl (sf := fun G2 => []) (fun _ => rfl) (fun G2 hT2 => ?_)
      have hN2 := hT2.now hN
      refine x_aload_n dX0_findPart_36 1 rfl ?_
      refine x_get dX0_findPart_37 fX0_20 (hT2.1) rfl ?_
      refine x_get dX0_findPart_40 fX0_46 (hT2.2.1.1) rfl ?_
      refine x_iconst dX0_findPart_43 ki_1 ?_
      refine x_iload_n dX0_findPart_44 0 rfl ?_
      refine x_iaddN dX0_findPart_45 ?_
      refine x_dup2 dX0_findPart_46 rfl rfl ?_
      refine x_ialdN dX0_findPart_47 (hT2.2.1.2.2) (by omega) (by decide) ?_
      refine x_pc (pc' := 48) rfl ?_
      refine x_iconst dX0_findPart_48 ki_1 ?_
      refine x_iadd dX0_findPart_49 ?_
      refine x_iastN dX0_findPart_50 (hT2.2.1.2.2) (by omega) (by decide) ?_
      have hT3 := hT2.row (partR r t)
      refine x_aload_n dX0_findPart_51 1 rfl ?_
      refine x_iload_n dX0_findPart_52 0 rfl ?_
      refine x_cVe (N := mX0_tryChoice) (d' := 5) (mc := 0) (ms := 0) (cb := 0) (sb := 0) (As := [.int (nI t)]) (st := []) dX0_findPart_53 mX0_tryChoice_v lX0_69 rfl rfl (hT3.1) rfl (by decide) (Nat.le_of_ble_eq_true rfl) (Asks_tryChoice hT3 hR hO (part_ok hO hrow (by omega) hpp)) rfl (sf := fun e4 => []) (fun _ => rfl) (fun e4 hq4 => ?_)
      obtain ⟨r4, G4⟩ := e4
      have hT4 : TrW G0 G4 x _ r4 _ _ _ := hq4
      refine x_iinc (v := nI (t + 1)) (ls' := [(1, .int (nI (t + 1))), (0, .ref (x + 36))]) dX0_findPart_56 0 rfl (nIs _) (by decide) rfl ?_
      refine x_goto (tgt := 11) dX0_findPart_59 (by decide) ?_
      exact ih (t + 1) G4 hl r4 ru (by omega) (by rw [tryF_s (p := (hl, partR r t)) rfl]; split at hT4 <;> rename_i hh <;> simp only [hh, if_true, if_false] <;> exact hT4)
theorem Asks_findPart {K : xG} {h x : Nat} {G0 G : xHp} {hl : xHl} {r : xRw} {ru : Option Nat} {rv : Option (List Nat)}{hk : xHl} {rk : xRw} {rt : Option Nat} {ch mo : Int32} (hN : DayAt G0 (x + 26) hl r (x + 16) ru) (hT : TrW G0 G x hk rk rt ch mo) (hR : RuleIn G0 ru rv (x + 51)) (hO : HallOk hl) (hrow : RowOk hl r) (hpp : ∀ s, s < hl 0 2 → ∃ p, p ≤ 100 ∧ r (1 + s) = nI p) : xCall K mX0_findPart 6 0 0 [.ref (x + 36)] h G (xEx (fun e : (xHl × xRw × Option Nat) × xHp => TrW G0 e.2 x e.1.1 e.1.2.1 e.1.2.2 (tryF rv (fun s => some (hl, partR r s)) (-1, savG hl rv r) (hl 0 2)).1 (tryF rv (fun s => some (hl, partR r s)) (-1, savG hl rv r) (hl 0 2)).2) (fun _ => none) (fun _ => h) (fun e => e.2)) := by
  refine x_entry (by decide) (ls := [(0, .ref (x + 36))]) rfl (Nat.le_of_ble_eq_true rfl) ?_
  have hNz := hT.now hN
  have hB := hN.2.1.2.2.2.2.2.2.2.2
  refine x_aload_n dX0_findPart_0 0 rfl ?_
  refine x_cVe (N := mX0_startTrials) (d' := 3) (mc := 0) (ms := 0) (cb := 0) (sb := 0) (As := []) (st := []) dX0_findPart_1 mX0_startTrials_v lX0_66 rfl rfl (hT.1) rfl (by decide) (Nat.le_of_ble_eq_true rfl) (Asks_startTrials hN hT) rfl (sf := fun G1 => []) (fun _ => rfl) (fun G1 hT1 => ?_)
  have hN1 := hT1.now hN
  refine x_aload_n dX0_findPart_4 0 rfl ?_
  refine x_iconst dX0_findPart_5 ki_m1 ?_
  refine x_cVe (N := mX0_tryChoice) (d' := 5) (mc := 0) (ms := 0) (cb := 0) (sb := 0) (As := [.int (-1)]) (st := []) dX0_findPart_6 mX0_tryChoice_v lX0_69 rfl rfl (hT1.1) rfl (by decide) (Nat.le_of_ble_eq_true rfl) (Asks_tryChoice hT1 hR hO hrow) rfl (sf := fun e2 => []) (fun _ => rfl) (fun e2 hq2 => ?_)
  obtain ⟨r2, G2⟩ := e2
  have hT2 : TrW G0 G2 x _ r2 _ _ _ := hq2
  rw [if_pos (saved_posG hO), if_pos (saved_posG hO)] at hT2
  have hN2 := hT2.now hN
  refine x_iconst dX0_findPart_9 ki_0 ?_
  refine x_istore_n (ls' := [(1, .int (nI 0)), (0, .ref (x + 36))]) dX0_findPart_10 (by decide) rfl ?_
  exact Asks_findPart_loop hN hR hO hrow hpp (hl 0 2) 0 G2 hl r2 ru (by omega) hT2
theorem Asks_findGuest_loop {K : xG} {h x : Nat} {G0 : xHp} {hl : xHl} {r : xRw} {ru : Option Nat} {rv : Option (List Nat)} (hN : DayAt G0 (x + 26) hl r (x + 16) ru) (hR : RuleIn G0 ru rv (x + 51)) (hO : HallOk hl) (hrow : RowOk hl r) (hf : hl 0 3 < 4 → r (5 + hl 0 3) = -1) (hgs : ∀ i, i < 4 → hl 3 (hl 0 3 * 4 + i) ≤ 60) : ∀ (k t : Nat) (G1 : xHp) (hk : xHl) (rk : xRw) (rt : Option Nat), t + k = hl 0 2 → TrW G0 G1 x hk rk rt (tryF rv (candG hl r) (-1, savG hl rv r) t).1 (tryF rv (candG hl r) (-1, savG hl rv r) t).2 → xV K mX0_findGuest 6 0 0 h G1 22 [(2, .int (nI t)), (0, .ref (x + 36)), (1, .int (nI (hl 0 3)))] [] (xEx (fun e : (xHl × xRw × Option Nat) × xHp => TrW G0 e.2 x e.1.1 e.1.2.1 e.1.2.2 (tryF rv (candG hl r) (-1, savG hl rv r) (hl 0 2)).1 (tryF rv (candG hl r) (-1, savG hl rv r) (hl 0 2)).2) (fun _ => none) (fun _ => h) (fun e => e.2)) := by
  have hB := hN.2.1.2.2.2.2.2.2.2.2
  obtain ⟨o2, o3, o4, o5, -⟩ := id hO
  intro k
  induction k with
  | zero =>
    intro t G1 hk rk rt hv hT1
    have hN1 := hT1.now hN
    have hv0 : t = hl 0 2 := by omega
    subst hv0
    refine x_iload_n dX0_findGuest_22 0 rfl ?_
    refine x_aload_n dX0_findGuest_23 1 rfl ?_
    refine x_get dX0_findGuest_24 fX0_9 (hT1.1) rfl ?_
    refine x_get dX0_findGuest_27 fX0_57 (hN1.1) rfl ?_
    refine x_get dX0_findGuest_30 fX0_84 (hN1.2.1.1) rfl ?_
    refine x_icmpN_ge (tgt := 87) dX0_findGuest_33 (by decide) (by have := hB 0 2; have := hB 0 3; have := hB 0 4; omega) (by have := hB 0 2; have := hB 0 3; have := hB 0 4; omega) (fun c33 => ?_) (fun c33 => ?_)
    · exact x_vret dX0_findGuest_87 rfl (xEx_i ((hk, rk, rt), G1) hT1 rfl rfl rfl)
    · exact absurd c33 (by omega)
  | succ k ih =>
    intro t G1 hk rk rt hv hT1
    have hN1 := hT1.now hN
    refine x_iload_n dX0_findGuest_22 0 rfl ?_
    refine x_aload_n dX0_findGuest_23 1 rfl ?_
    refine x_get dX0_findGuest_24 fX0_9 (hT1.1) rfl ?_
    refine x_get dX0_findGuest_27 fX0_57 (hN1.1) rfl ?_
    refine x_get dX0_findGuest_30 fX0_84 (hN1.2.1.1) rfl ?_
    refine x_icmpN_ge (tgt := 87) dX0_findGuest_33 (by decide) (by have := hB 0 2; have := hB 0 3; have := hB 0 4; omega) (by have := hB 0 2; have := hB 0 3; have := hB 0 4; omega) (fun c33 => ?_) (fun c33 => ?_)
    · exact absurd c33 (by omega)
    · refine x_iload_n dX0_findGuest_36 2 rfl ?_
      refine x_iconst dX0_findGuest_37 ki_4 ?_
      refine x_icmpN_ge (tgt := 87) dX0_findGuest_38 (by decide) (by have := hB 0 2; have := hB 0 3; have := hB 0 4; omega) (by have := hB 0 2; have := hB 0 3; have := hB 0 4; omega) (fun c38 => ?_) (fun c38 => ?_)
      · refine x_pc (pc' := 87) rfl ?_
        exact x_vret dX0_findGuest_87 rfl (xEx_i ((hk, rk, rt), G1) (by rw [tryF_const (fun i => candG_n c38)] at hT1 ⊢; exact hT1) rfl rfl rfl)
      · refine x_pc (pc' := 41) rfl ?_
        refine x_aload_n dX0_findGuest_41 1 rfl ?_
        refine x_get dX0_findGuest_42 fX0_20 (hT1.1) rfl ?_
        refine x_aload_n dX0_findGuest_45 1 rfl ?_
        refine x_get dX0_findGuest_46 fX0_9 (hT1.1) rfl ?_
        refine x_cVe (N := mX2_copy) (d' := 2) (mc := 0) (ms := 0) (cb := 0) (sb := 0) (As := [.ref (x + 26)]) (st := []) dX0_findGuest_49 mX2_copy_v lX0_32 rfl rfl (hT1.2.1.1) rfl (by decide) (Nat.le_of_ble_eq_true rfl) (Tr_copy hN hT1) rfl (sf := fun G2 => []) (fun _ => rfl) (fun G2 hT2 => ?_)
        have hN2 := hT2.now hN
        refine x_aload_n dX0_findGuest_52 1 rfl ?_
        refine x_get dX0_findGuest_53 fX0_20 (hT2.1) rfl ?_
        refine x_get dX0_findGuest_56 fX0_57 (hT2.2.1.1) rfl ?_
        refine x_cVe (N := mX3_addMender) (d' := 0) (mc := 0) (ms := 0) (cb := 0) (sb := 0) (As := []) (st := []) dX0_findGuest_59 mX3_addMender_v lX0_90 rfl rfl (hT2.2.1.2.1.1) rfl (by decide) (Nat.le_of_ble_eq_true rfl) (Tr_hallq hT2 (Hall_addMender hT2.2.1.2.1 c38)) rfl (sf := fun G3 => []) (fun _ => rfl) (fun G3 hT3 => ?_)
        have hN3 := hT3.now hN
        refine x_aload_n dX0_findGuest_62 1 rfl ?_
        refine x_pc (pc' := 63) rfl ?_
        refine x_get dX0_findGuest_63 fX0_20 (hT3.1) rfl ?_
        refine x_get dX0_findGuest_66 fX0_57 (hT3.2.1.1) rfl ?_
        refine x_iload_n dX0_findGuest_69 2 rfl ?_
        refine x_iload_n dX0_findGuest_70 0 rfl ?_
        refine x_bipush dX0_findGuest_71 kb_10 ?_
        refine x_cVe (N := mX3_setSkill) (d' := 1) (mc := 0) (ms := 0) (cb := 0) (sb := 0) (As := [.int (nI (hl 0 3)), .int (nI t), .int (nI 10)]) (st := []) dX0_findGuest_73 mX3_setSkill_v lX0_93 rfl rfl (hT3.2.1.2.1.1) rfl (by decide) (Nat.le_of_ble_eq_true rfl) (Tr_hallq hT3 (Hall_setSkill hT3.2.1.2.1 (by simp [set2]) (by simp [set2]; omega) (by simp [set2]; omega) (by simp [set2]; omega) (by decide))) rfl (sf := fun G4 => []) (fun _ => rfl) (fun G4 hT4 => ?_)
        have hN4 := hT4.now hN
        refine x_aload_n dX0_findGuest_76 1 rfl ?_
        refine x_iload_n dX0_findGuest_77 0 rfl ?_
        refine x_cVe (N := mX0_tryChoice) (d' := 5) (mc := 0) (ms := 0) (cb := 0) (sb := 0) (As := [.int (nI t)]) (st := []) dX0_findGuest_78 mX0_tryChoice_v lX0_69 rfl rfl (hT4.1) rfl (by decide) (Nat.le_of_ble_eq_true rfl) (Asks_tryChoice hT4 hR (guest_hall hO c38 hgs) (guest_row hrow (hf c38))) rfl (sf := fun e5 => []) (fun _ => rfl) (fun e5 hq5 => ?_)
        obtain ⟨r5, G5⟩ := e5
        have hT5 : TrW G0 G5 x _ r5 _ _ _ := hq5
        refine x_iinc (v := nI (t + 1)) (ls' := [(2, .int (nI (t + 1))), (0, .ref (x + 36)), (1, .int (nI (hl 0 3)))]) dX0_findGuest_81 0 rfl (nIs _) (by decide) rfl ?_
        refine x_pc (pc' := 84) rfl ?_
        refine x_goto (tgt := 22) dX0_findGuest_84 (by decide) ?_
        rw [show set2 (set2 hl 0 3 (hl 0 3 + 1)) 3 (hl 0 3 * 4 + t) 10 = guestH hl t from rfl] at hT5
        have hc : candG hl r t = some (guestH hl t, r) := if_pos c38
        exact ih (t + 1) G5 (guestH hl t) r5 ru (by omega) (by rw [tryF_s hc]; split at hT5 <;> rename_i hh <;> simp only [hh, if_true, if_false] <;> exact hT5)
theorem Asks_findGuest {K : xG} {h x : Nat} {G0 G : xHp} {hl : xHl} {r : xRw} {ru : Option Nat} {rv : Option (List Nat)}{hk : xHl} {rk : xRw} {rt : Option Nat} {ch mo : Int32} (hN : DayAt G0 (x + 26) hl r (x + 16) ru) (hT : TrW G0 G x hk rk rt ch mo) (hR : RuleIn G0 ru rv (x + 51)) (hO : HallOk hl) (hrow : RowOk hl r) (hf : hl 0 3 < 4 → r (5 + hl 0 3) = -1) (hgs : ∀ i, i < 4 → hl 3 (hl 0 3 * 4 + i) ≤ 60) : xCall K mX0_findGuest 6 0 0 [.ref (x + 36)] h G (xEx (fun e : (xHl × xRw × Option Nat) × xHp => TrW G0 e.2 x e.1.1 e.1.2.1 e.1.2.2 (tryF rv (candG hl r) (-1, savG hl rv r) (hl 0 2)).1 (tryF rv (candG hl r) (-1, savG hl rv r) (hl 0 2)).2) (fun _ => none) (fun _ => h) (fun e => e.2)) := by
  refine x_entry (by decide) (ls := [(0, .ref (x + 36))]) rfl (Nat.le_of_ble_eq_true rfl) ?_
  have hNz := hT.now hN
  have hB := hN.2.1.2.2.2.2.2.2.2.2
  refine x_aload_n dX0_findGuest_0 0 rfl ?_
  refine x_cVe (N := mX0_startTrials) (d' := 3) (mc := 0) (ms := 0) (cb := 0) (sb := 0) (As := []) (st := []) dX0_findGuest_1 mX0_startTrials_v lX0_66 rfl rfl (hT.1) rfl (by decide) (Nat.le_of_ble_eq_true rfl) (Asks_startTrials hN hT) rfl (sf := fun G1 => []) (fun _ => rfl) (fun G1 hT1 => ?_)
  have hN1 := hT1.now hN
  refine x_aload_n dX0_findGuest_4 0 rfl ?_
  refine x_iconst dX0_findGuest_5 ki_m1 ?_
  refine x_cVe (N := mX0_tryChoice) (d' := 5) (mc := 0) (ms := 0) (cb := 0) (sb := 0) (As := [.int (-1)]) (st := []) dX0_findGuest_6 mX0_tryChoice_v lX0_69 rfl rfl (hT1.1) rfl (by decide) (Nat.le_of_ble_eq_true rfl) (Asks_tryChoice hT1 hR hO hrow) rfl (sf := fun e2 => []) (fun _ => rfl) (fun e2 hq2 => ?_)
  obtain ⟨r2, G2⟩ := e2
  have hT2 : TrW G0 G2 x _ r2 _ _ _ := hq2
  rw [if_pos (saved_posG hO), if_pos (saved_posG hO)] at hT2
  have hN2 := hT2.now hN
  refine x_aload_n dX0_findGuest_9 0 rfl ?_
  refine x_get dX0_findGuest_10 fX0_9 (hT2.1) rfl ?_
  refine x_get dX0_findGuest_13 fX0_57 (hN2.1) rfl ?_
  refine x_get dX0_findGuest_16 fX0_87 (hN2.2.1.1) rfl ?_
  refine x_pc (pc' := 19) rfl ?_
  refine x_istore_n (ls' := [(1, .int (nI (hl 0 3))), (0, .ref (x + 36))]) dX0_findGuest_19 (by decide) rfl ?_
  refine x_iconst dX0_findGuest_20 ki_0 ?_
  refine x_istore_n (ls' := [(2, .int (nI 0)), (1, .int (nI (hl 0 3))), (0, .ref (x + 36))]) dX0_findGuest_21 (by decide) rfl ?_
  refine x_perm (ls' := [(2, .int (nI 0)), (0, .ref (x + 36)), (1, .int (nI (hl 0 3)))]) [0, 2, 1] rfl ?_
  exact Asks_findGuest_loop hN hR hO hrow hf hgs (hl 0 2) 0 G2 hl r2 ru (by omega) hT2
theorem Asks_idle_loop {K : xG} {h x q : Nat} {G0 : xHp} {hl : xHl} {ru : Option Nat} {rv : Option (List Nat)} {ch mo : Int32} {R : xRw} (hR : RuleIn G0 ru rv (x + 51)) (hO : HallOk hl) (hq : q < 4) : ∀ (i k : Nat) (rk : xRw) (G1 : xHp), k + i = 400 → idleR hl rv i rk = R → RowOk hl rk → TrW G0 G1 x hl rk ru ch mo → xV K mX0_idleAtEnd 4 0 0 h G1 13 [(2, .int (nI k)), (0, .ref (x + 36)), (1, .int (nI q))] [] (xEx (fun e : xHp => TrW G0 e x hl R ru ch mo) (fun _ => some (.int (R (17 + q)))) (fun _ => h) (fun e => e)) := by
  intro i
  induction i with
  | zero =>
    intro k rk G1 hv hr hok hT1
    refine x_iload_n dX0_idleAtEnd_13 0 rfl ?_
    refine x_sipush dX0_idleAtEnd_14 ks_400 ?_
    refine x_icmpN_ge (tgt := 54) dX0_idleAtEnd_17 (by decide) (by omega) (by omega) (fun c17 => ?_) (fun c17 => ?_)
    · refine x_aload_n dX0_idleAtEnd_54 1 rfl ?_
      refine x_get dX0_idleAtEnd_55 fX0_20 (hT1.1) rfl ?_
      refine x_get dX0_idleAtEnd_58 fX0_46 (hT1.2.1.1) rfl ?_
      refine x_bipush dX0_idleAtEnd_61 kb_17 ?_
      refine x_iload_n dX0_idleAtEnd_63 2 rfl ?_
      refine x_iaddN dX0_idleAtEnd_64 ?_
      refine x_pc (pc' := 65) rfl ?_
      refine x_ialdN dX0_idleAtEnd_65 (hT1.2.1.2.2) (by omega) (by decide) ?_
      exact x_iret dX0_idleAtEnd_66 rfl (xEx_i G1 (hr ▸ hT1) (by rw [← hr]; rfl) rfl rfl)
    · exact absurd c17 (by omega)
  | succ i ih =>
    intro k rk G1 hv hr hok hT1
    refine x_iload_n dX0_idleAtEnd_13 0 rfl ?_
    refine x_sipush dX0_idleAtEnd_14 ks_400 ?_
    refine x_icmpN_ge (tgt := 54) dX0_idleAtEnd_17 (by decide) (by omega) (by omega) (fun c17 => ?_) (fun c17 => ?_)
    · exact absurd c17 (by omega)
    · refine x_aload_n dX0_idleAtEnd_20 1 rfl ?_
      refine x_get dX0_idleAtEnd_21 fX0_20 (hT1.1) rfl ?_
      refine x_cV (N := mX2_minuteNow) (d' := 0) (mc := 0) (ms := 0) (cb := 0) (sb := 0) (As := []) (st := []) dX0_idleAtEnd_24 mX2_minuteNow_v lX0_54 rfl rfl (hT1.2.1.1) rfl (by decide) (Nat.le_of_ble_eq_true rfl) (Day_minuteNow hT1.2.1) rfl (st1 := [.int (rk 0)]) rfl ?_
      refine x_aload_n dX0_idleAtEnd_27 1 rfl ?_
      refine x_get dX0_idleAtEnd_28 fX0_20 (hT1.1) rfl ?_
      refine x_get dX0_idleAtEnd_31 fX0_57 (hT1.2.1.1) rfl ?_
      refine x_pc (pc' := 34) rfl ?_
      refine x_get dX0_idleAtEnd_34 fX0_113 (hT1.2.1.2.1.1) rfl ?_
      refine x_icmp_ge (x := rk 0) (y := nI (hl 0 0)) (tgt := 54) dX0_idleAtEnd_37 (by decide) (fun c37 => ?_) (fun c37 => ?_)
      · refine x_aload_n dX0_idleAtEnd_54 1 rfl ?_
        refine x_get dX0_idleAtEnd_55 fX0_20 (hT1.1) rfl ?_
        refine x_get dX0_idleAtEnd_58 fX0_46 (hT1.2.1.1) rfl ?_
        refine x_bipush dX0_idleAtEnd_61 kb_17 ?_
        refine x_iload_n dX0_idleAtEnd_63 2 rfl ?_
        refine x_iaddN dX0_idleAtEnd_64 ?_
        refine x_ialdN dX0_idleAtEnd_65 (hT1.2.1.2.2) (by omega) (by decide) ?_
        exact x_iret dX0_idleAtEnd_66 rfl (xEx_i G1 (by rw [show R = rk from hr.symm.trans (if_neg (Int32.not_lt.mpr c37))]; exact hT1) (by rw [show R = rk from hr.symm.trans (if_neg (Int32.not_lt.mpr c37))]) rfl rfl)
      · refine x_aload_n dX0_idleAtEnd_40 1 rfl ?_
        refine x_get dX0_idleAtEnd_41 fX0_20 (hT1.1) rfl ?_
        refine x_cVe (N := mX2_goOn) (d' := 3) (mc := 0) (ms := 0) (cb := 0) (sb := 0) (As := []) (st := []) dX0_idleAtEnd_44 mX2_goOn_v lX0_50 rfl rfl (hT1.2.1.1) rfl (by decide) (Nat.le_of_ble_eq_true rfl) (Tr_goOn hT1 hR hO hok) rfl (sf := fun G2 => [.int ((goMin hl rv rk).2)]) (fun _ => rfl) (fun G2 hT2 => ?_)
        refine x_pop dX0_idleAtEnd_47 rfl ?_
        refine x_iinc (v := nI (k + 1)) (ls' := [(2, .int (nI (k + 1))), (0, .ref (x + 36)), (1, .int (nI q))]) dX0_idleAtEnd_48 0 rfl (nIs _) (by decide) rfl ?_
        refine x_goto (tgt := 13) dX0_idleAtEnd_51 (by decide) ?_
        exact ih (k + 1) _ G2 (by omega) ((if_pos (Int32.not_le.mp c37)).symm.trans hr) (goMin_ok hO hok) hT2
theorem Asks_idleAtEnd {K : xG} {h x : Nat} {G0 G : xHp} {hl : xHl} {r : xRw} {ru : Option Nat} {rv : Option (List Nat)}{hk : xHl} {rk : xRw} {rt : Option Nat} {ch mo : Int32} {q : Nat} (hN : DayAt G0 (x + 26) hl r (x + 16) ru) (hT : TrW G0 G x hk rk rt ch mo) (hR : RuleIn G0 ru rv (x + 51)) (hO : HallOk hl) (hrow : RowOk hl r) (hq : q < 4) : xCall K mX0_idleAtEnd 4 0 0 [.ref (x + 36), .int (nI q)] h G (xEx (fun e : xHp => TrW G0 e x hl (idleR hl rv 400 r) ru ch mo) (fun _ => some (.int (idleR hl rv 400 r (17 + q)))) (fun _ => h) (fun e => e)) := by
  refine x_entry (by decide) (ls := [(0, .ref (x + 36)), (1, .int (nI q))]) rfl (Nat.le_of_ble_eq_true rfl) ?_
  have hNz := hT.now hN
  refine x_aload_n dX0_idleAtEnd_0 0 rfl ?_
  refine x_get dX0_idleAtEnd_1 fX0_20 (hT.1) rfl ?_
  refine x_aload_n dX0_idleAtEnd_4 0 rfl ?_
  refine x_get dX0_idleAtEnd_5 fX0_9 (hT.1) rfl ?_
  refine x_cVe (N := mX2_copy) (d' := 2) (mc := 0) (ms := 0) (cb := 0) (sb := 0) (As := [.ref (x + 26)]) (st := []) dX0_idleAtEnd_8 mX2_copy_v lX0_32 rfl rfl (hT.2.1.1) rfl (by decide) (Nat.le_of_ble_eq_true rfl) (Tr_copy hN hT) rfl (sf := fun G1 => []) (fun _ => rfl) (fun G1 hT1 => ?_)
  have hN1 := hT1.now hN
  refine x_iconst dX0_idleAtEnd_11 ki_0 ?_
  refine x_istore_n (ls' := [(2, .int (nI 0)), (0, .ref (x + 36)), (1, .int (nI q))]) dX0_idleAtEnd_12 (by decide) rfl ?_
  exact Asks_idle_loop hR hO hq 400 0 r G1 (by omega) rfl hrow hT1
theorem Asks_fromBegin_n {K : xG} {h x : Nat} {G0 G : xHp} {hl : xHl} {r : xRw} {ru : Option Nat} {hk : xHl} {rk : xRw} {rt : Option Nat} {ch mo : Int32} (hN : DayAt G0 (x + 26) hl r (x + 16) ru) (hT : TrW G0 G x hk rk rt ch mo) : xCall K mX0_fromBegin 3 0 0 [.ref (x + 36), .null] h G (trQ G0 h x (some (.ref (x + 37))) hl (clearR hl) none ch mo) := by
  refine x_entry (by decide) (ls := [(0, .ref (x + 36)), (1, .null)]) rfl (Nat.le_of_ble_eq_true rfl) ?_
  have hNz := hT.now hN
  refine x_aload_n dX0_fromBegin_0 0 rfl ?_
  refine x_get dX0_fromBegin_1 fX0_20 (hT.1) rfl ?_
  refine x_aload_n dX0_fromBegin_4 0 rfl ?_
  refine x_get dX0_fromBegin_5 fX0_9 (hT.1) rfl ?_
  refine x_cVe (N := mX2_copy) (d' := 2) (mc := 0) (ms := 0) (cb := 0) (sb := 0) (As := [.ref (x + 26)]) (st := []) dX0_fromBegin_8 mX2_copy_v lX0_32 rfl rfl (hT.2.1.1) rfl (by decide) (Nat.le_of_ble_eq_true rfl) (Tr_copy hN hT) rfl (sf := fun G1 => []) (fun _ => rfl) (fun G1 hT1 => ?_)
  have hN1 := hT1.now hN
  refine x_aload_n dX0_fromBegin_11 0 rfl ?_
  refine x_get dX0_fromBegin_12 fX0_20 (hT1.1) rfl ?_
  refine x_cVe (N := mX2_clear) (d' := 1) (mc := 0) (ms := 0) (cb := 0) (sb := 0) (As := []) (st := []) dX0_fromBegin_15 mX2_clear_v lX0_120 rfl rfl (hT1.2.1.1) rfl (by decide) (Nat.le_of_ble_eq_true rfl) (Tr_clear hT1) rfl (sf := fun G2 => []) (fun _ => rfl) (fun G2 hT2 => ?_)
  have hN2 := hT2.now hN
  refine x_aload_n dX0_fromBegin_18 0 rfl ?_
  refine x_pc (pc' := 19) rfl ?_
  refine x_get dX0_fromBegin_19 fX0_20 (hT2.1) rfl ?_
  refine x_aload_nN dX0_fromBegin_22 1 rfl ?_
  refine x_put (fs' := [.ref (x + 38), .ref (x + 46), .ref (x + 16), .null]) dX0_fromBegin_23 fX0_123 (hT2.2.1.1) (Nat.le_of_ble_eq_true rfl) rfl rfl rfl ?_
  refine x_aload_n dX0_fromBegin_26 0 rfl ?_
  refine x_get dX0_fromBegin_27 fX0_20 (xup_of (by omega) (hT2.1)) rfl ?_
  exact x_aret dX0_fromBegin_30 rfl (by simp) (by simp) (xEx_i _ (hT2.rule' (rt' := none)) rfl rfl rfl)
theorem Asks_fromBegin_s {K : xG} {h x : Nat} {G0 G : xHp} {hl : xHl} {r : xRw} {ru : Option Nat} {hk : xHl} {rk : xRw} {rt : Option Nat} {ch mo : Int32} {ra : Nat} (hN : DayAt G0 (x + 26) hl r (x + 16) ru) (hT : TrW G0 G x hk rk rt ch mo) : xCall K mX0_fromBegin 3 0 0 [.ref (x + 36), .ref ra] h G (trQ G0 h x (some (.ref (x + 37))) hl (clearR hl) (some ra) ch mo) := by
  refine x_entry (by decide) (ls := [(0, .ref (x + 36)), (1, .ref ra)]) rfl (Nat.le_of_ble_eq_true rfl) ?_
  have hNz := hT.now hN
  refine x_aload_n dX0_fromBegin_0 0 rfl ?_
  refine x_get dX0_fromBegin_1 fX0_20 (hT.1) rfl ?_
  refine x_aload_n dX0_fromBegin_4 0 rfl ?_
  refine x_get dX0_fromBegin_5 fX0_9 (hT.1) rfl ?_
  refine x_cVe (N := mX2_copy) (d' := 2) (mc := 0) (ms := 0) (cb := 0) (sb := 0) (As := [.ref (x + 26)]) (st := []) dX0_fromBegin_8 mX2_copy_v lX0_32 rfl rfl (hT.2.1.1) rfl (by decide) (Nat.le_of_ble_eq_true rfl) (Tr_copy hN hT) rfl (sf := fun G1 => []) (fun _ => rfl) (fun G1 hT1 => ?_)
  have hN1 := hT1.now hN
  refine x_aload_n dX0_fromBegin_11 0 rfl ?_
  refine x_get dX0_fromBegin_12 fX0_20 (hT1.1) rfl ?_
  refine x_cVe (N := mX2_clear) (d' := 1) (mc := 0) (ms := 0) (cb := 0) (sb := 0) (As := []) (st := []) dX0_fromBegin_15 mX2_clear_v lX0_120 rfl rfl (hT1.2.1.1) rfl (by decide) (Nat.le_of_ble_eq_true rfl) (Tr_clear hT1) rfl (sf := fun G2 => []) (fun _ => rfl) (fun G2 hT2 => ?_)
  have hN2 := hT2.now hN
  refine x_aload_n dX0_fromBegin_18 0 rfl ?_
  refine x_pc (pc' := 19) rfl ?_
  refine x_get dX0_fromBegin_19 fX0_20 (hT2.1) rfl ?_
  refine x_aload_n dX0_fromBegin_22 1 rfl ?_
  refine x_put (fs' := [.ref (x + 38), .ref (x + 46), .ref (x + 16), .ref ra]) dX0_fromBegin_23 fX0_123 (hT2.2.1.1) (Nat.le_of_ble_eq_true rfl) rfl rfl rfl ?_
  refine x_aload_n dX0_fromBegin_26 0 rfl ?_
  refine x_get dX0_fromBegin_27 fX0_20 (xup_of (by omega) (hT2.1)) rfl ?_
  exact x_aret dX0_fromBegin_30 rfl (by simp) (by simp) (xEx_i _ (hT2.rule' (rt' := (some ra))) rfl rfl rfl)
theorem Asks_fromBegin {K : xG} {h x : Nat} {G0 G : xHp} {hl : xHl} {r : xRw} {ru rx : Option Nat} {hk : xHl} {rk : xRw} {rt : Option Nat} {ch mo : Int32} (hN : DayAt G0 (x + 26) hl r (x + 16) ru) (hT : TrW G0 G x hk rk rt ch mo) : xCall K mX0_fromBegin 3 0 0 [.ref (x + 36), va_rf rx] h G (trQ G0 h x (some (.ref (x + 37))) hl (clearR hl) rx ch mo) := by
  cases rx with
  | none => exact Asks_fromBegin_n hN hT
  | some ra => exact Asks_fromBegin_s hN hT
