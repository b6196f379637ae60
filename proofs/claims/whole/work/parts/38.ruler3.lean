theorem Rr_clause {K : xG} {h b tx n : Nat} {G0 G : xHp} {tp : Nat → Nat} {s : xPS} {bf : Nat} (hW : RRd G0 G b tx n tp s) (h0 : s.1 = 0) (hb : bf < 1000) : xCall K mX9_readClause 29 0 0 [.ref b, .int (nI bf)] h G (rrQ G0 h b tx n tp none (rcP tp n s bf)) := by
  refine x_entry (by decide) (ls := [(0, .ref b), (1, .int (nI bf))]) rfl (Nat.le_of_ble_eq_true rfl) ?_
  have htx := hW.2.2.2.2.2.2.2
  obtain ⟨hp1, hp2⟩ := hW.p
  obtain ⟨u2, u3, u4, u5, u6, hc⟩ := hW.1.cell
  refine x_aload_n dX9_readClause_0 0 rfl ?_
  refine x_get dX9_readClause_1 fX9_20 (hW.2.1) rfl ?_
  refine x_ldcS 1 (by decide) rfl rfl dX9_readClause_4 ?_
  refine x_cV (N := mX7_isWord) (d' := 5) (mc := 0) (ms := 0) (cb := 0) (sb := 0) (As := [.ref (K.2.2.2.2.1 1)]) (st := []) dX9_readClause_6 mX7_isWord_v lX9_62 rfl rfl (hc) rfl (by decide) (Nat.le_of_ble_eq_true rfl) (Rd_isWord hW.1 (by omega) (by decide)) rfl (st1 := [.int (bI (isW tp n s 1))]) rfl ?_
  refine x_ifB_ne (tgt := 21) dX9_readClause_9 (by decide) (fun c9 => ?_) (fun c9 => ?_)
  · refine x_iload_n dX9_readClause_21 1 rfl ?_
    refine x_bipush dX9_readClause_22 kb_12 ?_
    refine x_icmpN_lt (tgt := 36) dX9_readClause_24 (by decide) (by omega) (by omega) (fun c24 => ?_) (fun c24 => ?_)
    · refine x_aload_n dX9_readClause_36 0 rfl ?_
      refine x_pc (pc' := 37) rfl ?_
      refine x_get dX9_readClause_37 fX9_20 (hW.2.1) rfl ?_
      refine x_cVe (N := mX7_next) (d' := 0) (mc := 0) (ms := 0) (cb := 0) (sb := 0) (As := []) (st := []) dX9_readClause_40 mX7_next_v lX9_42 rfl rfl (hc) rfl (by decide) (Nat.le_of_ble_eq_true rfl) (hW.nx (h0)) rfl (sf := fun G1 => []) (fun _ => rfl) (fun G1 hW1 => ?_)
      obtain ⟨u21, u31, u41, u51, u61, hc1⟩ := hW1.1.cell
      have hg := next_gt (tp := tp) hp1 (by rw [(isW_s c9).2]; decide)
      refine x_aload_n dX9_readClause_43 0 rfl ?_
      refine x_cVe (N := mX9_readSum) (d' := 6) (mc := 0) (ms := 0) (cb := 0) (sb := 0) (As := []) (st := []) dX9_readClause_44 mX9_readSum_v lX9_69 rfl rfl (hW1.2.1) rfl (by decide) (Nat.le_of_ble_eq_true rfl) (Rr_sum hW1) rfl (sf := fun G2 => []) (fun _ => rfl) (fun G2 hW2 => ?_)
      obtain ⟨u22, u32, u42, u52, u62, hc2⟩ := hW2.1.cell
      refine x_aload_n dX9_readClause_47 0 rfl ?_
      refine x_get dX9_readClause_48 fX9_20 (hW2.2.1) rfl ?_
      refine x_ldcS 2 (by decide) rfl rfl dX9_readClause_51 ?_
      refine x_cV (N := mX7_isWord) (d' := 5) (mc := 0) (ms := 0) (cb := 0) (sb := 0) (As := [.ref (K.2.2.2.2.1 2)]) (st := []) dX9_readClause_53 mX7_isWord_v lX9_62 rfl rfl (hc2) rfl (by decide) (Nat.le_of_ble_eq_true rfl) (Rd_isWord hW2.1 (by omega) (by decide)) rfl (st1 := [.int (bI (isW tp n (sumL tp n 400 none none (nextP tp n s)) 2))]) rfl ?_
      refine x_ifB_eq (tgt := 81) dX9_readClause_56 (by decide) (fun c56 => ?_) (fun c56 => ?_)
      · refine x_aload_n dX9_readClause_81 0 rfl ?_
        refine x_pc (pc' := 82) rfl ?_
        refine x_bipush dX9_readClause_82 kb_15 ?_
        refine x_iconst dX9_readClause_84 ki_0 ?_
        refine x_cVe (N := mX9_putStep) (d' := 0) (mc := 0) (ms := 0) (cb := 0) (sb := 0) (As := [.int (nI 15), .int (nI 0)]) (st := []) dX9_readClause_85 mX9_putStep_v lX9_77 rfl rfl (hW2.2.1) rfl (by decide) (Nat.le_of_ble_eq_true rfl) (Rr_put hW2 (by omega) (by decide)) rfl (sf := fun G3 => []) (fun _ => rfl) (fun G3 hW3 => ?_)
        obtain ⟨u23, u33, u43, u53, u63, hc3⟩ := hW3.1.cell
        exact x_vret dX9_readClause_88 rfl (xEx_i G3 (by rw [rc_3 c9 c24 c56]; exact hW3) rfl rfl rfl)
      · refine x_aload_n dX9_readClause_59 0 rfl ?_
        refine x_pc (pc' := 60) rfl ?_
        refine x_get dX9_readClause_60 fX9_20 (hW2.2.1) rfl ?_
        refine x_cVe (N := mX7_next) (d' := 0) (mc := 0) (ms := 0) (cb := 0) (sb := 0) (As := []) (st := []) dX9_readClause_63 mX7_next_v lX9_42 rfl rfl (hc2) rfl (by decide) (Nat.le_of_ble_eq_true rfl) (hW2.nx ((isW_s c56).1)) rfl (sf := fun G4 => []) (fun _ => rfl) (fun G4 hW4 => ?_)
        obtain ⟨u24, u34, u44, u54, u64, hc4⟩ := hW4.1.cell
        have hm := ((Mo.sum : Mo n (nextP tp n s) (sumL tp n 400 none none (nextP tp n s))).tr Mo.next : Mo n (nextP tp n s) (nextP tp n (sumL tp n 400 none none (nextP tp n s)))) (isW_s c56).1
        refine x_aload_n dX9_readClause_66 0 rfl ?_
        refine x_iconst dX9_readClause_67 ki_0 ?_
        refine x_cVe (N := mX9_readTest) (d' := (8 + 2 * (10 - 0))) (mc := 0) (ms := 0) (cb := 0) (sb := 0) (As := [.int (nI 0)]) (st := []) dX9_readClause_68 mX9_readTest_v lX9_74 rfl rfl (hW4.2.1) rfl (by omega) (Nat.le_of_ble_eq_true rfl) ((Rr_both 802).2 0 _ _ (by omega) ⟨by omega, fun _ => by omega⟩ (fun _ => by omega) hW4) rfl (sf := fun G5 => []) (fun _ => rfl) (fun G5 hW5 => ?_)
        obtain ⟨u25, u35, u45, u55, u65, hc5⟩ := hW5.1.cell
        refine x_aload_n dX9_readClause_71 0 rfl ?_
        refine x_bipush dX9_readClause_72 kb_16 ?_
        refine x_iconst dX9_readClause_74 ki_0 ?_
        refine x_cVe (N := mX9_putStep) (d' := 0) (mc := 0) (ms := 0) (cb := 0) (sb := 0) (As := [.int (nI 16), .int (nI 0)]) (st := []) dX9_readClause_75 mX9_putStep_v lX9_77 rfl rfl (hW5.2.1) rfl (by decide) (Nat.le_of_ble_eq_true rfl) (Rr_put hW5 (by omega) (by decide)) rfl (sf := fun G6 => []) (fun _ => rfl) (fun G6 hW6 => ?_)
        obtain ⟨u26, u36, u46, u56, u66, hc6⟩ := hW6.1.cell
        refine x_goto (tgt := 88) dX9_readClause_78 (by decide) ?_
        refine x_pc (pc' := 88) rfl ?_
        exact x_vret dX9_readClause_88 rfl (xEx_i G6 (by rw [rc_2 c9 c24 c56]; exact hW6) rfl rfl rfl)
    · refine x_aload_n dX9_readClause_27 0 rfl ?_
      refine x_pc (pc' := 28) rfl ?_
      refine x_get dX9_readClause_28 fX9_20 (hW.2.1) rfl ?_
      refine x_iconst dX9_readClause_31 ki_4 ?_
      refine x_cVe (N := mX7_fail) (d' := 0) (mc := 0) (ms := 0) (cb := 0) (sb := 0) (As := [.int (nI 4)]) (st := []) dX9_readClause_32 mX7_fail_v lX9_66 rfl rfl (hc) rfl (by decide) (Nat.le_of_ble_eq_true rfl) (hW.fl (by decide)) rfl (sf := fun G7 => []) (fun _ => rfl) (fun G7 hW7 => ?_)
      obtain ⟨u27, u37, u47, u57, u67, hc7⟩ := hW7.1.cell
      exact x_vret dX9_readClause_35 rfl (xEx_i G7 (by rw [rc_1 c9 c24]; exact hW7) rfl rfl rfl)
  · refine x_aload_n dX9_readClause_12 0 rfl ?_
    refine x_get dX9_readClause_13 fX9_20 (hW.2.1) rfl ?_
    refine x_iconst dX9_readClause_16 ki_0 ?_
    refine x_cVe (N := mX7_fail) (d' := 0) (mc := 0) (ms := 0) (cb := 0) (sb := 0) (As := [.int (nI 0)]) (st := []) dX9_readClause_17 mX7_fail_v lX9_66 rfl rfl (hc) rfl (by decide) (Nat.le_of_ble_eq_true rfl) (hW.fl (by decide)) rfl (sf := fun G8 => []) (fun _ => rfl) (fun G8 hW8 => ?_)
    obtain ⟨u28, u38, u48, u58, u68, hc8⟩ := hW8.1.cell
    refine x_pc (pc' := 20) rfl ?_
    exact x_vret dX9_readClause_20 rfl (xEx_i G8 (by rw [rc_0 c9]; exact hW8) rfl rfl rfl)
theorem Rr_loop {K : xG} {h b tx n : Nat} {G0 : xHp} {tp : Nat → Nat} {R : xPS} : ∀ (k bf : Nat) (s : xPS) (G1 : xHp), bf + k = 13 → 1 ≤ bf → rrL tp n k bf s = R → RRd G0 G1 b tx n tp s → xV K mX9_readAll 30 0 0 h G1 25 [(2, .int (nI bf)), (0, .ref b), (1, .int (nI n))] [] (xEx (fun G' => RRd G0 G' b tx n tp (eeP tp n R.1 R.2.1, R.2)) (fun _ => some (.int (nI (eeP tp n R.1 R.2.1)))) (fun _ => h) (fun G' => G')) := by
  intro k
  induction k with
  | zero =>
    intro bf s G1 hk h1 hR hW1
    have hR0 : s = R := hR
    subst hR0
    obtain ⟨u21, u31, u41, u51, u61, hc1⟩ := hW1.1.cell
    refine x_iload_n dX9_readAll_25 0 rfl ?_
    refine x_bipush dX9_readAll_26 kb_12 ?_
    refine x_icmpN_gt (tgt := 61) dX9_readAll_28 (by decide) (by omega) (by omega) (fun c28 => ?_) (fun c28 => ?_)
    · refine x_aload_n dX9_readAll_61 1 rfl ?_
      refine x_get dX9_readAll_62 fX9_20 (hW1.2.1) rfl ?_
      refine x_cVe (N := mX7_expectEnd) (d' := 1) (mc := 0) (ms := 0) (cb := 0) (sb := 0) (As := []) (st := []) dX9_readAll_65 mX7_expectEnd_v lX9_45 rfl rfl (hc1) rfl (by decide) (Nat.le_of_ble_eq_true rfl) (hW1.ee) rfl (sf := fun G2 => []) (fun _ => rfl) (fun G2 hW2 => ?_)
      obtain ⟨u22, u32, u42, u52, u62, hc2⟩ := hW2.1.cell
      refine x_aload_n dX9_readAll_68 1 rfl ?_
      refine x_get dX9_readAll_69 fX9_20 (hW2.2.1) rfl ?_
      refine x_get dX9_readAll_72 fX9_48 (hc2) rfl ?_
      refine x_pc (pc' := 75) rfl ?_
      exact x_iret dX9_readAll_75 rfl (xEx_i G2 hW2 rfl rfl rfl)
    · exact absurd c28 (by omega)
  | succ k ih =>
    intro bf s G1 hk h1 hR hW1
    have htx := hW1.2.2.2.2.2.2.2
    obtain ⟨u21, u31, u41, u51, u61, hc1⟩ := hW1.1.cell
    refine x_iload_n dX9_readAll_25 0 rfl ?_
    refine x_bipush dX9_readAll_26 kb_12 ?_
    refine x_icmpN_gt (tgt := 61) dX9_readAll_28 (by decide) (by omega) (by omega) (fun c28 => ?_) (fun c28 => ?_)
    · exact absurd c28 (by omega)
    · refine x_aload_n dX9_readAll_31 1 rfl ?_
      refine x_get dX9_readAll_32 fX9_20 (hW1.2.1) rfl ?_
      refine x_bipush dX9_readAll_35 kb_59 ?_
      refine x_cV (N := mX7_isSign) (d' := 0) (mc := 0) (ms := 0) (cb := 0) (sb := 0) (As := [.int (nI 59)]) (st := []) dX9_readAll_37 mX7_isSign_v lX9_38 rfl rfl (hc1) rfl (by decide) (Nat.le_of_ble_eq_true rfl) (Rd_isSign hW1.1 (by omega) (by decide)) rfl (st1 := [.int (bI (isS tp n s.1 s.2.1 59))]) rfl ?_
      refine x_ifB_eq (tgt := 61) dX9_readAll_40 (by decide) (fun c40 => ?_) (fun c40 => ?_)
      · have hR0 : s = R := by rw [← hR]; simp only [rrL]; rw [if_neg (by rw [c40]; decide)]
        subst hR0
        refine x_aload_n dX9_readAll_61 1 rfl ?_
        refine x_pc (pc' := 62) rfl ?_
        refine x_get dX9_readAll_62 fX9_20 (hW1.2.1) rfl ?_
        refine x_cVe (N := mX7_expectEnd) (d' := 1) (mc := 0) (ms := 0) (cb := 0) (sb := 0) (As := []) (st := []) dX9_readAll_65 mX7_expectEnd_v lX9_45 rfl rfl (hc1) rfl (by decide) (Nat.le_of_ble_eq_true rfl) (hW1.ee) rfl (sf := fun G2 => []) (fun _ => rfl) (fun G2 hW2 => ?_)
        obtain ⟨u22, u32, u42, u52, u62, hc2⟩ := hW2.1.cell
        refine x_aload_n dX9_readAll_68 1 rfl ?_
        refine x_get dX9_readAll_69 fX9_20 (hW2.2.1) rfl ?_
        refine x_get dX9_readAll_72 fX9_48 (hc2) rfl ?_
        exact x_iret dX9_readAll_75 rfl (xEx_i G2 hW2 rfl rfl rfl)
      · refine x_aload_n dX9_readAll_43 1 rfl ?_
        refine x_pc (pc' := 44) rfl ?_
        refine x_get dX9_readAll_44 fX9_20 (hW1.2.1) rfl ?_
        refine x_cVe (N := mX7_next) (d' := 0) (mc := 0) (ms := 0) (cb := 0) (sb := 0) (As := []) (st := []) dX9_readAll_47 mX7_next_v lX9_42 rfl rfl (hc1) rfl (by decide) (Nat.le_of_ble_eq_true rfl) (hW1.nx ((of_decide_eq_true c40).1)) rfl (sf := fun G3 => []) (fun _ => rfl) (fun G3 hW3 => ?_)
        obtain ⟨u23, u33, u43, u53, u63, hc3⟩ := hW3.1.cell
        refine x_aload_n dX9_readAll_50 1 rfl ?_
        refine x_iload_n dX9_readAll_51 0 rfl ?_
        refine x_cVe (N := mX9_readClause) (d' := 29) (mc := 0) (ms := 0) (cb := 0) (sb := 0) (As := [.int (nI bf)]) (st := []) dX9_readAll_52 mX9_readClause_v lX9_35 rfl rfl (hW3.2.1) rfl (by decide) (Nat.le_of_ble_eq_true rfl) (Rr_clause hW3 (of_decide_eq_true c40).1 (by omega)) rfl (sf := fun G4 => []) (fun _ => rfl) (fun G4 hW4 => ?_)
        refine x_iinc (v := nI (bf + 1)) (ls' := [(2, .int (nI (bf + 1))), (0, .ref b), (1, .int (nI n))]) dX9_readAll_55 0 rfl (nIs _) (by decide) rfl ?_
        refine x_goto (tgt := 25) dX9_readAll_58 (by decide) ?_
        exact ih (bf + 1) _ G4 (by omega) (by omega) (by rw [← hR]; simp only [rrL]; rw [if_pos c40]) hW4
theorem Rr_readAll {K : xG} {h b tx n : Nat} {G : xHp} {tp : Nat → Nat} {z1 z2 a1 a2 a3 a4 a5 a6 a7 : Int32} {st : Nat → Int32} (hn : n ≤ 400) (ht : G tx = some (eI 0 400 (nF tp))) (htp : ∀ j, tp j < 256) (htx : tx < b) (hb : G b = some (eO 9 [.ref (b + 2), .ref (b + 1), .int z1, .int z2])) (hs : G (b + 1) = some (eI 0 400 st)) (hr : G (b + 2) = some (eO 7 [.ref tx, .int a1, .int a2, .int a3, .int a4, .int a5, .int a6, .int a7])) : xCall K mX9_readAll 30 0 0 [.ref b, .int (nI n)] h G (xEx (fun G' => RRd G G' b tx n tp (rulP tp n)) (fun _ => some (.int (nI (rulP tp n).1))) (fun _ => h) (fun G' => G')) := by
  refine x_entry (by decide) (ls := [(0, .ref b), (1, .int (nI n))]) rfl (Nat.le_of_ble_eq_true rfl) ?_
  refine x_aload_n dX9_readAll_0 0 rfl ?_
  refine x_iconst dX9_readAll_1 ki_0 ?_
  refine x_put (fs' := [.ref (b + 2), .ref (b + 1), .int (nI 0), .int z2]) dX9_readAll_2 fX9_24 (hb) (Nat.le_of_ble_eq_true rfl) rfl rfl rfl ?_
  refine x_aload_n dX9_readAll_5 0 rfl ?_
  refine x_iconst dX9_readAll_6 ki_0 ?_
  refine x_put (fs' := [.ref (b + 2), .ref (b + 1), .int (nI 0), .int (nI 0)]) dX9_readAll_7 fX9_28 (xup_eq) (Nat.le_of_ble_eq_true rfl) rfl rfl rfl ?_
  refine x_geq xup_up ?_
  refine x_aload_n dX9_readAll_10 0 rfl ?_
  refine x_get dX9_readAll_11 fX9_20 (xup_eq) rfl ?_
  refine x_iload_n dX9_readAll_14 1 rfl ?_
  refine x_pc (pc' := 15) rfl ?_
  refine x_cVe (N := mX7_start) (d' := 1) (mc := 0) (ms := 0) (cb := 0) (sb := 0) (As := [.int (nI n)]) (st := []) dX9_readAll_15 mX7_start_v lX9_31 rfl rfl (xup_of (by omega) (hr)) rfl (by decide) (Nat.le_of_ble_eq_true rfl) (Rd_start hn (xup_of (by omega) ht) (by omega) htp (xup_of (by omega) (hr))) rfl (sf := fun G2 => []) (fun _ => rfl) (fun G2 hq2 => ?_)
  obtain ⟨y3, y4⟩ := hq2
  have hW2 : RRd G G2 b tx n tp (0, 0, 0, []) := ⟨y3, (y4 b (by omega)).trans xup_eq, ⟨st, ((y4 (b + 1) (by omega)).trans (xup_of (by omega) hs)), fun j hj => absurd hj (by simp)⟩, by simp, fun v hv => by simp at hv, by simp, fun a ha => (y4 a (by omega)).trans (xup_ne (by omega)), htx⟩
  obtain ⟨u22, u32, u42, u52, u62, hc2⟩ := hW2.1.cell
  refine x_aload_n dX9_readAll_18 0 rfl ?_
  refine x_iconst dX9_readAll_19 ki_0 ?_
  refine x_cVe (N := mX9_readClause) (d' := 29) (mc := 0) (ms := 0) (cb := 0) (sb := 0) (As := [.int (nI 0)]) (st := []) dX9_readAll_20 mX9_readClause_v lX9_35 rfl rfl (hW2.2.1) rfl (by decide) (Nat.le_of_ble_eq_true rfl) (Rr_clause hW2 rfl (by decide)) rfl (sf := fun G3 => []) (fun _ => rfl) (fun G3 hW3 => ?_)
  refine x_iconst dX9_readAll_23 ki_1 ?_
  refine x_istore_n (ls' := [(2, .int (nI 1)), (0, .ref b), (1, .int (nI n))]) dX9_readAll_24 (by decide) rfl ?_
  exact Rr_loop (R := rrL tp n 12 1 (rcP tp n (0, 0, 0, []) 0)) 12 1 _ G3 (by omega) (by omega) rfl hW3
theorem Arr_copyOf {K : xG} {h a m : Nat} {G : xHp} {f : Nat → Int32} (ha : G a = some (eI 0 400 f)) (hm : m < 400) (hah : a < h) : xCall K mJ7_copyOf_59c91 1 1 400 [.ref a, .int (nI m)] h G (xEx (fun g : Nat → Int32 => ∀ j, j < m → g j = f j) (fun _ => some (.ref h)) (fun _ => h + 1) (fun g => xup G h (eI 0 m g))) := by
  refine x_entry (by decide) (ls := [(0, .ref a), (1, .int (nI m))]) rfl (Nat.le_of_ble_eq_true rfl) ?_
  refine x_iload_n dJ7_copyOf_59c91_0 1 rfl ?_
  refine x_aload_n dJ7_copyOf_59c91_1 0 rfl ?_
  refine x_alen dJ7_copyOf_59c91_2 (by decide) (ha) ?_
  refine x_icmpN_ne (tgt := 14) dJ7_copyOf_59c91_3 (by decide) (by omega) (by omega) (fun c3 => ?_) (fun c3 => ?_)
  · refine x_iload_n dJ7_copyOf_59c91_14 1 rfl ?_
    refine x_mono (cb' := 1 + 0) (sb' := m + 0) (by omega) (by omega) ?_
    refine x_newa (cb := 0) (sb := 0) (t := 0) (N0 := m) dJ7_copyOf_59c91_15 rfl xac_int (fun _ => rfl) (fun _ _ => rfl) rfl (nI_pos (by omega)) (nI_clamp (by omega)) (by show m * 4 ≤ 536870912; omega) ?_
    refine x_hh (h' := h + 1) rfl ?_
    refine x_astore_n (ls' := [(2, .ref h), (0, .ref a), (1, .int (nI m))]) dJ7_copyOf_59c91_17 (by decide) rfl ?_
    refine x_aload_n dJ7_copyOf_59c91_18 1 rfl ?_
    refine x_iconst dJ7_copyOf_59c91_19 ki_0 ?_
    refine x_pc (pc' := 20) rfl ?_
    refine x_aload_n dJ7_copyOf_59c91_20 0 rfl ?_
    refine x_iconst dJ7_copyOf_59c91_21 ki_0 ?_
    refine x_aload_n dJ7_copyOf_59c91_22 1 rfl ?_
    refine x_alen dJ7_copyOf_59c91_23 (by decide) (xup_of (by omega) (ha)) ?_
    refine x_iload_n dJ7_copyOf_59c91_24 2 rfl ?_
    refine x_mmin dJ7_copyOf_59c91_25 lJ7_304 xw_minS xw_mathI xw_minC (by decide) (Nat.le_of_ble_eq_true rfl) ?_
    refine x_topi (y := nI m) (by rw [mnI_nI (by decide) (by omega), Nat.min_eq_right (by omega)]) ?_
    refine x_copyN dJ7_copyOf_59c91_28 lJ7_150 (xup_of (by omega) (ha)) (xup_eq) (by omega) (by omega) (by decide) (by omega) xw_nat xw_nst xw_sys (by decide) (Nat.le_of_ble_eq_true rfl) ?_
    refine x_geq xup_up ?_
    refine x_aload_n dJ7_copyOf_59c91_31 0 rfl ?_
    exact x_aret dJ7_copyOf_59c91_32 rfl (by simp) (by simp) (xEx_i _ (fun j hj => by rw [pk_cpy_in (by omega) (by omega)]; congr 1; omega) rfl rfl rfl)
  · exact absurd c3 (by omega)
theorem Rule_init {K : xG} {h b a : Nat} {G : xHp} (hb : G b = some (eO 8 [.null])) : xCall K mX8_init 1 0 0 [.ref b, .ref a] h G (xRet none h (xup G b (eO 8 [.ref a]))) := by
  refine x_entry (by decide) (ls := [(0, .ref b), (1, .ref a)]) rfl (Nat.le_of_ble_eq_true rfl) ?_
  refine x_aload_n dX8_init_0 0 rfl ?_
  refine x_objInit dX8_init_1 lX8_1 xw_objI xw_objC (by decide) (Nat.le_of_ble_eq_true rfl) ?_
  refine x_aload_n dX8_init_4 0 rfl ?_
  refine x_aload_n dX8_init_5 1 rfl ?_
  refine x_putF (fs' := [.ref a]) dX8_init_6 fX8_7 rfl rfl (hb) (Nat.le_of_ble_eq_true rfl) rfl rfl rfl ?_
  exact x_vret dX8_init_9 rfl (xRet_i)
theorem Rr_made {K : xG} {h b tx n : Nat} {G0 G : xHp} {tp : Nat → Nat} {s : xPS} (hW : RRd G0 G b tx n tp s) (hl : s.2.2.2.length < 400) (hbh : b + 3 ≤ h) : xCall K mX9_made 2 2 401 [.ref b] h G (xEx (fun G' => RuleAt G' h s.2.2.2 ∧ ∀ a, a < h → G' a = G a) (fun _ => some (.ref h)) (fun _ => h + 2) (fun G' => G')) := by
  refine x_entry (by decide) (ls := [(0, .ref b)]) rfl (Nat.le_of_ble_eq_true rfl) ?_
  obtain ⟨w1, w2, ⟨st, w3, w4⟩, w5, w6, w7, w8, w9⟩ := hW
  refine x_new (cb := 1) (sb := 400) (fs := [.null]) dX9_made_0 xcl_X8 kX9_51 xin_X8 xii_X8 xdf_X8 ?_
  refine x_hh (h' := h + 1) rfl ?_
  refine x_dup dX9_made_3 rfl ?_
  refine x_aload_n dX9_made_4 0 rfl ?_
  refine x_get dX9_made_5 fX9_9 (xup_of (by omega) (w2)) rfl ?_
  refine x_aload_n dX9_made_8 0 rfl ?_
  refine x_get dX9_made_9 fX9_24 (xup_of (by omega) (w2)) rfl ?_
  refine x_cSe (N := mJ7_copyOf_59c91) (d' := 1) (mc := 1) (ms := 400) (cb := 0) (sb := 0) (As := [.ref (b + 1), .int (nI s.2.2.2.length)]) (st := [.ref h, .ref h]) dX9_made_12 mJ7_copyOf_59c91_s lX9_53 rfl (by decide) (Nat.le_of_ble_eq_true rfl) (Arr_copyOf (xup_of (by omega) (w3)) hl (by omega)) rfl (sf := fun g2 => [.ref (h + 1), .ref h, .ref h]) (fun _ => rfl) (fun g2 hg2 => ?_)
  refine x_hh (h' := h + 2) rfl ?_
  refine x_cI (N := mX8_init) (d' := 1) (mc := 0) (ms := 0) (cb := 0) (sb := 0) (As := [.ref (h + 1)]) (st := [.ref h]) dX9_made_15 mX8_init_i lX9_59 rfl (by decide) (Nat.le_of_ble_eq_true rfl) (Rule_init (xup_of (by omega) (xup_eq))) rfl (st1 := [.ref h]) rfl ?_
  refine x_geq (xup_dig (by omega)) ?_
  refine x_acong (g := fun j => nI (s.2.2.2.getD j 0)) (fun j hj => (hg2 j hj).trans (w4 j hj)) ?_
  exact x_aret dX9_made_18 rfl (by simp) (by simp) (xEx_i _ ⟨⟨xup_of (by omega) (xup_eq), xup_eq, w6, by omega⟩, fun a ha => by rw [xup_ne (by omega), xup_ne (by omega)]⟩ rfl rfl rfl)
theorem Rr_init {K : xG} {b tx : Nat} {G : xHp} (hb : G b = some (eO 9 [.null, .null, .int 0, .int 0])) : xCall K mX9_init 2 2 408 [.ref b, .ref tx] (b + 1) G (xEx (fun G' => G' b = some (eO 9 [.ref (b + 2), .ref (b + 1), .int 0, .int 0]) ∧ G' (b + 1) = some (eI 0 400 (fun _ => 0)) ∧ G' (b + 2) = some (eO 7 [.ref tx, .int 0, .int 0, .int 0, .int 0, .int 0, .int 0, .int 0]) ∧ Fr G G' b 3) (fun _ => none) (fun _ => b + 3) (fun G' => G')) := by
  refine x_entry (by decide) (ls := [(0, .ref b), (1, .ref tx)]) rfl (Nat.le_of_ble_eq_true rfl) ?_
  refine x_aload_n dX9_init_0 0 rfl ?_
  refine x_objInit dX9_init_1 lX9_3 xw_objI xw_objC (by decide) (Nat.le_of_ble_eq_true rfl) ?_
  refine x_aload_n dX9_init_4 0 rfl ?_
  refine x_sipush dX9_init_5 ks_400 ?_
  refine x_newa (cb := 1) (sb := 8) (t := 0) (N0 := 400) dX9_init_8 rfl xac_int (fun _ => rfl) (fun _ _ => rfl) rfl (by decide) (by decide) (by decide) ?_
  refine x_hh (h' := b + 2) rfl ?_
  refine x_putF (fs' := [.null, .ref (b + 1), .int 0, .int 0]) dX9_init_10 fX9_9 rfl rfl (xup_of (by omega) (hb)) (Nat.le_of_ble_eq_true rfl) rfl rfl rfl ?_
  refine x_aload_n dX9_init_13 0 rfl ?_
  refine x_new (cb := 0) (sb := 0) (fs := [.null, .int 0, .int 0, .int 0, .int 0, .int 0, .int 0, .int 0]) dX9_init_14 xcl_X7 kX9_15 xin_X7 xii_X7 xdf_X7 ?_
  refine x_hh (h' := b + 3) rfl ?_
  refine x_dup dX9_init_17 rfl ?_
  refine x_pc (pc' := 18) rfl ?_
  refine x_aload_n dX9_init_18 1 rfl ?_
  refine x_cI (N := mX7_init) (d' := 1) (mc := 0) (ms := 0) (cb := 0) (sb := 0) (As := [.ref tx]) (st := [.ref (b + 2), .ref b]) dX9_init_19 mX7_init_i lX9_17 rfl (by decide) (Nat.le_of_ble_eq_true rfl) (Rd_init (xup_eq)) rfl (st1 := [.ref (b + 2), .ref b]) rfl ?_
  refine x_geq xup_up ?_
  refine x_putF (fs' := [.ref (b + 2), .ref (b + 1), .int 0, .int 0]) dX9_init_22 fX9_20 rfl rfl (xup_of (by omega) (xup_eq)) (Nat.le_of_ble_eq_true rfl) rfl rfl rfl ?_
  refine x_geq (xup_dig (by omega)) ?_
  exact x_vret dX9_init_25 rfl (xEx_i _ ⟨xup_of (by omega) (xup_eq), xup_of (by omega) (xup_of (by omega) (xup_eq)), xup_eq, (((Fr.rf).up1 (by omega) (by omega)).up1 (by omega) (by omega)).up1 (by omega) (by omega)⟩ rfl rfl rfl)
theorem Judge_init {K : xG} {b : Nat} {G : xHp} (hb : G b = some (eO 5 [.null, .null])) : xCall K mX5_init 1 2 44 [.ref b] (b + 1) G (xEx (fun G' => JudgeAt G' b (fun _ => 0) (fun _ => 0) ∧ Fr G G' b 3) (fun _ => none) (fun _ => b + 3) (fun G' => G')) := by
  refine x_entry (by decide) (ls := [(0, .ref b)]) rfl (Nat.le_of_ble_eq_true rfl) ?_
  refine x_aload_n dX5_init_0 0 rfl ?_
  refine x_objInit dX5_init_1 lX5_3 xw_objI xw_objC (by decide) (Nat.le_of_ble_eq_true rfl) ?_
  refine x_aload_n dX5_init_4 0 rfl ?_
  refine x_bipush dX5_init_5 kb_12 ?_
  refine x_newaJ (cb := 1) (sb := 32) (N0 := 12) dX5_init_7 rfl xac_long (by decide) (by decide) (by decide) ?_
  refine x_hh (h' := b + 2) rfl ?_
  refine x_putF (fs' := [.ref (b + 1), .null]) dX5_init_9 fX5_11 rfl rfl (xup_of (by omega) (hb)) (Nat.le_of_ble_eq_true rfl) rfl rfl rfl ?_
  refine x_aload_n dX5_init_12 0 rfl ?_
  refine x_bipush dX5_init_13 kb_32 ?_
  refine x_newaJ (cb := 0) (sb := 0) (N0 := 32) dX5_init_15 rfl xac_long (by decide) (by decide) (by decide) ?_
  refine x_hh (h' := b + 3) rfl ?_
  refine x_pc (pc' := 17) rfl ?_
  refine x_putF (fs' := [.ref (b + 1), .ref (b + 2)]) dX5_init_17 fX5_17 rfl rfl (xup_of (by omega) (xup_eq)) (Nat.le_of_ble_eq_true rfl) rfl rfl rfl ?_
  refine x_geq (xup_dig (by omega)) ?_
  exact x_vret dX5_init_20 rfl (xEx_i _ ⟨⟨xup_of (by omega) (xup_eq), xup_of (by omega) (xup_of (by omega) (xup_eq)), xup_eq⟩, (((Fr.rf).up1 (by omega) (by omega)).up1 (by omega) (by omega)).up1 (by omega) (by omega)⟩ rfl rfl rfl)
