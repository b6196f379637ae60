theorem Mt_keep {K : xG} {h x : Nat} {G0 G : xHp} {hk : xHl} {rk : xRw} {rt : Option Nat} {tr : Nat → Int32} {B : xB} {w mi : Int32} (hM : MtW G0 G x hk rk rt tr B) : xCall K mX6_keepIfBetter 1 0 0 [.ref (x + 47), .int w, .int mi] h G (xEx (fun G' => MtW G0 G' x hk rk rt tr (keepB B w mi tr)) (fun _ => none) (fun _ => h) (fun G' => G')) := by
  refine x_entry (by decide) (ls := [(0, .ref (x + 47)), (1, .int w), (2, .int mi)]) rfl (Nat.le_of_ble_eq_true rfl) ?_
  refine x_iload_n dX6_keepIfBetter_0 1 rfl ?_
  refine x_aload_n dX6_keepIfBetter_1 0 rfl ?_
  refine x_get dX6_keepIfBetter_2 fX6_22 (hM.2.1) rfl ?_
  refine x_icmp_gt (x := w) (y := B.1) (tgt := 24) dX6_keepIfBetter_5 (by decide) (fun c5 => ?_) (fun c5 => ?_)
  · refine x_aload_n dX6_keepIfBetter_24 0 rfl ?_
    refine x_iload_n dX6_keepIfBetter_25 1 rfl ?_
    refine x_put (fs' := [.ref (x + 37), .ref (x + 48), .ref (x + 49), .int w, .int B.2.1]) dX6_keepIfBetter_26 fX6_22 (hM.2.1) (Nat.le_of_ble_eq_true rfl) rfl rfl rfl ?_
    refine x_aload_n dX6_keepIfBetter_29 0 rfl ?_
    refine x_iload_n dX6_keepIfBetter_30 2 rfl ?_
    refine x_pc (pc' := 31) rfl ?_
    refine x_put (fs' := [.ref (x + 37), .ref (x + 48), .ref (x + 49), .int w, .int mi]) dX6_keepIfBetter_31 fX6_79 (xup_eq) (Nat.le_of_ble_eq_true rfl) rfl rfl rfl ?_
    refine x_geq xup_up ?_
    refine x_aload_n dX6_keepIfBetter_34 0 rfl ?_
    refine x_get dX6_keepIfBetter_35 fX6_9 (xup_eq) rfl ?_
    refine x_iconst dX6_keepIfBetter_38 ki_0 ?_
    refine x_aload_n dX6_keepIfBetter_39 0 rfl ?_
    refine x_get dX6_keepIfBetter_40 fX6_15 (xup_eq) rfl ?_
    refine x_iconst dX6_keepIfBetter_43 ki_0 ?_
    refine x_iconst dX6_keepIfBetter_44 ki_4 ?_
    refine x_copyF dX6_keepIfBetter_45 lX6_82 (xup_of (by omega) (hM.2.2.1)) (xup_of (by omega) (hM.2.2.2.1)) (by decide) xw_nat xw_nst xw_sys (by decide) (Nat.le_of_ble_eq_true rfl) ?_
    exact x_vret dX6_keepIfBetter_48 rfl (xEx_i _ (by unfold keepB; rw [if_pos (Or.inl c5)]; exact hM.keep w mi) rfl rfl rfl)
  · refine x_iload_n dX6_keepIfBetter_8 1 rfl ?_
    refine x_aload_n dX6_keepIfBetter_9 0 rfl ?_
    refine x_get dX6_keepIfBetter_10 fX6_22 (hM.2.1) rfl ?_
    refine x_icmp_ne (x := w) (y := B.1) (tgt := 48) dX6_keepIfBetter_13 (by decide) (fun c13 => ?_) (fun c13 => ?_)
    · exact x_vret dX6_keepIfBetter_48 rfl (xEx_i G (by unfold keepB; rw [if_neg (fun q => q.elim (fun q => c5 q) (fun q => c13 q.1))]; exact hM) rfl rfl rfl)
    · refine x_iload_n dX6_keepIfBetter_16 2 rfl ?_
      refine x_pc (pc' := 17) rfl ?_
      refine x_aload_n dX6_keepIfBetter_17 0 rfl ?_
      refine x_get dX6_keepIfBetter_18 fX6_79 (hM.2.1) rfl ?_
      refine x_icmp_ge (x := mi) (y := B.2.1) (tgt := 48) dX6_keepIfBetter_21 (by decide) (fun c21 => ?_) (fun c21 => ?_)
      · exact x_vret dX6_keepIfBetter_48 rfl (xEx_i G (by unfold keepB; rw [if_neg (fun q => q.elim (fun q => c5 q) (fun q => Int32.not_lt.mpr c21 q.2))]; exact hM) rfl rfl rfl)
      · refine x_aload_n dX6_keepIfBetter_24 0 rfl ?_
        refine x_iload_n dX6_keepIfBetter_25 1 rfl ?_
        refine x_put (fs' := [.ref (x + 37), .ref (x + 48), .ref (x + 49), .int w, .int B.2.1]) dX6_keepIfBetter_26 fX6_22 (hM.2.1) (Nat.le_of_ble_eq_true rfl) rfl rfl rfl ?_
        refine x_aload_n dX6_keepIfBetter_29 0 rfl ?_
        refine x_iload_n dX6_keepIfBetter_30 2 rfl ?_
        refine x_put (fs' := [.ref (x + 37), .ref (x + 48), .ref (x + 49), .int w, .int mi]) dX6_keepIfBetter_31 fX6_79 (xup_eq) (Nat.le_of_ble_eq_true rfl) rfl rfl rfl ?_
        refine x_geq xup_up ?_
        refine x_aload_n dX6_keepIfBetter_34 0 rfl ?_
        refine x_pc (pc' := 35) rfl ?_
        refine x_get dX6_keepIfBetter_35 fX6_9 (xup_eq) rfl ?_
        refine x_iconst dX6_keepIfBetter_38 ki_0 ?_
        refine x_aload_n dX6_keepIfBetter_39 0 rfl ?_
        refine x_get dX6_keepIfBetter_40 fX6_15 (xup_eq) rfl ?_
        refine x_iconst dX6_keepIfBetter_43 ki_0 ?_
        refine x_iconst dX6_keepIfBetter_44 ki_4 ?_
        refine x_copyF dX6_keepIfBetter_45 lX6_82 (xup_of (by omega) (hM.2.2.1)) (xup_of (by omega) (hM.2.2.2.1)) (by decide) xw_nat xw_nst xw_sys (by decide) (Nat.le_of_ble_eq_true rfl) ?_
        exact x_vret dX6_keepIfBetter_48 rfl (xEx_i _ (by unfold keepB; rw [if_pos (Or.inr ⟨c13, Int32.not_le.mp c21⟩)]; exact hM.keep w mi) rfl rfl rfl)
theorem Mt_try_loop {K : xG} {h x : Nat} {G0 : xHp} {hk : xHl} {rt : Option Nat} {n q : Nat} {r : xRw} {w mi : Int32} {S1 : (Nat → Int32) × xB} (hO : HallOk hk) (ih : ∀ (q : Nat), q + n = hk 0 3 → ∀ (r rk : xRw) (w mi : Int32) (tr : Nat → Int32) (B : xB) (G : xHp), Off9 r rk → MtW G0 G x hk rk rt tr B → xCall K mX6_tryFrom (n + 2) 0 0 [.ref (x + 47), .int (nI q), .int w, .int mi] h G (xEx (fun e : xRw × xHp => Off9 r e.1 ∧ MtW G0 e.2 x hk e.1 rt (dfsM hk n r q w mi (tr, B)).1 (dfsM hk n r q w mi (tr, B)).2) (fun _ => none) (fun _ => h) (fun e => e.2))) (hq : q + (n + 1) = hk 0 3) (hf : r (5 + q) = -1) : ∀ (k t : Nat) (rk : xRw) (G1 : xHp), t + k = hk 0 4 → Off9 r rk → MtW G0 G1 x hk rk rt (itF (fun t S => if canT hk r q t = true then dfsM hk n (beginR hk r q t) (q + 1) (w + nI (hk 6 t)) (mi + nI (effS hk q t)) (upd S.1 q (nI t), S.2) else S) t S1).1 (itF (fun t S => if canT hk r q t = true then dfsM hk n (beginR hk r q t) (q + 1) (w + nI (hk 6 t)) (mi + nI (effS hk q t)) (upd S.1 q (nI t), S.2) else S) t S1).2 → xV K mX6_tryFrom (n + 3) 0 0 h G1 57 [(4, .int (nI t)), (0, .ref (x + 47)), (1, .int (nI q)), (2, .int w), (3, .int mi)] [] (xEx (fun e : xRw × xHp => Off9 r e.1 ∧ MtW G0 e.2 x hk e.1 rt (itF (fun t S => if canT hk r q t = true then dfsM hk n (beginR hk r q t) (q + 1) (w + nI (hk 6 t)) (mi + nI (effS hk q t)) (upd S.1 q (nI t), S.2) else S) (hk 0 4) S1).1 (itF (fun t S => if canT hk r q t = true then dfsM hk n (beginR hk r q t) (q + 1) (w + nI (hk 6 t)) (mi + nI (effS hk q t)) (upd S.1 q (nI t), S.2) else S) (hk 0 4) S1).2) (fun _ => none) (fun _ => h) (fun e => e.2)) := by
  obtain ⟨o2, o3, o4, o5, -⟩ := id hO
  intro k
  induction k with
  | zero =>
    intro t rk G1 hv hoff hM1
    have hv0 : t = hk 0 4 := by omega
    subst hv0
    refine x_iload dX6_tryFrom_57 0 rfl ?_
    refine x_aload_n dX6_tryFrom_59 1 rfl ?_
    refine x_get dX6_tryFrom_60 fX6_18 (hM1.2.1) rfl ?_
    refine x_get dX6_tryFrom_63 fX6_30 (hM1.1.1) rfl ?_
    refine x_get dX6_tryFrom_66 fX6_49 (hM1.1.2.1.1) rfl ?_
    refine x_icmpN_ge (tgt := 191) dX6_tryFrom_69 (by decide) (by omega) (by omega) (fun c69 => ?_) (fun c69 => ?_)
    · exact x_vret dX6_tryFrom_191 rfl (xEx_i (rk, G1) ⟨hoff, hM1⟩ rfl rfl rfl)
    · exact absurd c69 (by omega)
  | succ k ihk =>
    intro t rk G1 hv hoff hM1
    have o5t := o5 t (by omega)
    refine x_iload dX6_tryFrom_57 0 rfl ?_
    refine x_aload_n dX6_tryFrom_59 1 rfl ?_
    refine x_get dX6_tryFrom_60 fX6_18 (hM1.2.1) rfl ?_
    refine x_get dX6_tryFrom_63 fX6_30 (hM1.1.1) rfl ?_
    refine x_get dX6_tryFrom_66 fX6_49 (hM1.1.2.1.1) rfl ?_
    refine x_icmpN_ge (tgt := 191) dX6_tryFrom_69 (by decide) (by omega) (by omega) (fun c69 => ?_) (fun c69 => ?_)
    · exact absurd c69 (by omega)
    · refine x_aload_n dX6_tryFrom_72 1 rfl ?_
      refine x_get dX6_tryFrom_73 fX6_18 (hM1.2.1) rfl ?_
      refine x_iload_n dX6_tryFrom_76 2 rfl ?_
      refine x_pc (pc' := 77) rfl ?_
      refine x_iload dX6_tryFrom_77 0 rfl ?_
      refine x_cV (N := mX2_canTake) (d' := 1) (mc := 0) (ms := 0) (cb := 0) (sb := 0) (As := [.int (nI q), .int (nI t)]) (st := []) dX6_tryFrom_79 mX2_canTake_v lX6_52 rfl rfl (hM1.1.1) rfl (by omega) (Nat.le_of_ble_eq_true rfl) (Day_canTake hM1.1 (by omega) (by omega) (by omega)) rfl (st1 := [.int (bI (canT hk rk q t))]) rfl ?_
      refine x_ifB_eq (tgt := 185) dX6_tryFrom_82 (by decide) (fun c82 => ?_) (fun c82 => ?_)
      · rw [hoff.can hk q t (by omega)] at c82
        refine x_iinc (v := nI (t + 1)) (ls' := [(4, .int (nI (t + 1))), (0, .ref (x + 47)), (1, .int (nI q)), (2, .int w), (3, .int mi)]) dX6_tryFrom_185 0 rfl (nIs _) (by decide) rfl ?_
        refine x_goto (tgt := 57) dX6_tryFrom_188 (by decide) ?_
        exact ihk (t + 1) rk G1 (by omega) hoff (by simp only [itF]; rw [if_neg (by rw [c82]; decide)]; exact hM1)
      · rw [hoff.can hk q t (by omega)] at c82
        refine x_aload_n dX6_tryFrom_85 1 rfl ?_
        refine x_get dX6_tryFrom_86 fX6_9 (hM1.2.1) rfl ?_
        refine x_iload_n dX6_tryFrom_89 2 rfl ?_
        refine x_iload dX6_tryFrom_90 0 rfl ?_
        refine x_iastN dX6_tryFrom_92 (hM1.2.2.1) (by omega) (by decide) ?_
        have hM2 := hM1.tried (upd ((itF (fun t S => if canT hk r q t = true then dfsM hk n (beginR hk r q t) (q + 1) (w + nI (hk 6 t)) (mi + nI (effS hk q t)) (upd S.1 q (nI t), S.2) else S) t S1).1) q (nI t))
        refine x_aload_n dX6_tryFrom_93 1 rfl ?_
        refine x_get dX6_tryFrom_94 fX6_18 (hM2.2.1) rfl ?_
        refine x_pc (pc' := 97) rfl ?_
        refine x_iload_n dX6_tryFrom_97 2 rfl ?_
        refine x_iload dX6_tryFrom_98 0 rfl ?_
        refine x_cV (N := mX2_begin) (d' := 1) (mc := 0) (ms := 0) (cb := 0) (sb := 0) (As := [.int (nI q), .int (nI t)]) (st := []) dX6_tryFrom_100 mX2_begin_v lX6_56 rfl rfl (hM2.1.1) rfl (by omega) (Nat.le_of_ble_eq_true rfl) (hM2.begin (by omega) (by omega) (by omega)) rfl (st1 := []) rfl ?_
        have hM3 := hM2.row (beginR hk rk q t)
        refine x_aload_n dX6_tryFrom_103 1 rfl ?_
        refine x_iload_n dX6_tryFrom_104 2 rfl ?_
        refine x_iconst dX6_tryFrom_105 ki_1 ?_
        refine x_iaddN dX6_tryFrom_106 ?_
        refine x_iload_n dX6_tryFrom_107 3 rfl ?_
        refine x_aload_n dX6_tryFrom_108 1 rfl ?_
        refine x_get dX6_tryFrom_109 fX6_18 (hM3.2.1) rfl ?_
        refine x_pc (pc' := 112) rfl ?_
        refine x_get dX6_tryFrom_112 fX6_30 (hM3.1.1) rfl ?_
        refine x_get dX6_tryFrom_115 fX6_59 (hM3.1.2.1.1) rfl ?_
        refine x_iload dX6_tryFrom_118 0 rfl ?_
        refine x_ialdN dX6_tryFrom_120 (hM3.1.2.1.2.2.2.2.2.2.1) (by omega) (by decide) ?_
        refine x_iadd dX6_tryFrom_121 ?_
        refine x_iload_n dX6_tryFrom_122 4 rfl ?_
        refine x_aload_n dX6_tryFrom_123 1 rfl ?_
        refine x_get dX6_tryFrom_124 fX6_18 (hM3.2.1) rfl ?_
        refine x_iload_n dX6_tryFrom_127 2 rfl ?_
        refine x_iload dX6_tryFrom_128 0 rfl ?_
        refine x_pc (pc' := 130) rfl ?_
        refine x_cV (N := mX2_effort) (d' := 0) (mc := 0) (ms := 0) (cb := 0) (sb := 0) (As := [.int (nI q), .int (nI t)]) (st := [.int mi, .int (w + (nI (hk 6 t))), .int (nI (q + 1)), .ref (x + 47)]) dX6_tryFrom_130 mX2_effort_v lX6_62 rfl rfl (hM3.1.1) rfl (by omega) (Nat.le_of_ble_eq_true rfl) (Day_effort hM3.1 (by omega) (by omega) (by omega)) rfl (st1 := [.int (nI (effS hk q t)), .int mi, .int (w + (nI (hk 6 t))), .int (nI (q + 1)), .ref (x + 47)]) rfl ?_
        refine x_iadd dX6_tryFrom_133 ?_
        refine x_cVe (N := mX6_tryFrom) (d' := (n + 2)) (mc := 0) (ms := 0) (cb := 0) (sb := 0) (As := [.int (nI (q + 1)), .int (w + (nI (hk 6 t))), .int (mi + (nI (effS hk q t)))]) (st := []) dX6_tryFrom_134 mX6_tryFrom_v lX6_26 rfl rfl (hM3.2.1) rfl (by omega) (Nat.le_of_ble_eq_true rfl) (ih (q + 1) (by omega) (beginR hk r q t) (beginR hk rk q t) _ _ _ _ _ (hoff.begin hk (by omega) (by omega)) hM3) rfl (sf := fun e4 => []) (fun _ => rfl) (fun e4 hq4 => ?_)
        obtain ⟨rk4, G4⟩ := e4
        obtain ⟨hoff4, hM4⟩ := hq4
        simp only at hoff4 hM4
        have h45 : rk4 (5 + q) = nI t := by rw [hoff4 (5 + q) (by omega)]; unfold beginR; rw [upd_off (by omega), upd_at]
        refine x_aload_n dX6_tryFrom_137 1 rfl ?_
        refine x_get dX6_tryFrom_138 fX6_18 (hM4.2.1) rfl ?_
        refine x_iload_n dX6_tryFrom_141 2 rfl ?_
        refine x_cV (N := mX2_layDown) (d' := 1) (mc := 0) (ms := 0) (cb := 0) (sb := 0) (As := [.int (nI q)]) (st := []) dX6_tryFrom_142 mX2_layDown_v lX6_66 rfl rfl (hM4.1.1) rfl (by omega) (Nat.le_of_ble_eq_true rfl) (hM4.lay (by omega) (by omega) (by omega) h45) rfl (st1 := [.int (nI t)]) rfl ?_
        have hM5 := hM4.row (layR rk4 q t)
        refine x_pop dX6_tryFrom_145 rfl ?_
        refine x_aload_n dX6_tryFrom_146 1 rfl ?_
        refine x_get dX6_tryFrom_147 fX6_18 (hM5.2.1) rfl ?_
        refine x_pc (pc' := 150) rfl ?_
        refine x_get dX6_tryFrom_150 fX6_70 (hM5.1.1) rfl ?_
        refine x_iconst dX6_tryFrom_153 ki_1 ?_
        refine x_aload_n dX6_tryFrom_154 1 rfl ?_
        refine x_get dX6_tryFrom_155 fX6_18 (hM5.2.1) rfl ?_
        refine x_get dX6_tryFrom_158 fX6_30 (hM5.1.1) rfl ?_
        refine x_get dX6_tryFrom_161 fX6_73 (hM5.1.2.1.1) rfl ?_
        refine x_iload dX6_tryFrom_164 0 rfl ?_
        refine x_ialdN dX6_tryFrom_166 (hM5.1.2.1.2.2.2.2.1) (by omega) (by decide) ?_
        refine x_iaddN dX6_tryFrom_167 ?_
        refine x_dup2 dX6_tryFrom_168 rfl rfl ?_
        refine x_pc (pc' := 169) rfl ?_
        refine x_ialdN dX6_tryFrom_169 (hM5.1.2.2) (by omega) (by decide) ?_
        refine x_aload_n dX6_tryFrom_170 1 rfl ?_
        refine x_get dX6_tryFrom_171 fX6_18 (hM5.2.1) rfl ?_
        refine x_get dX6_tryFrom_174 fX6_30 (hM5.1.1) rfl ?_
        refine x_get dX6_tryFrom_177 fX6_76 (hM5.1.2.1.1) rfl ?_
        refine x_iload dX6_tryFrom_180 0 rfl ?_
        refine x_ialdN dX6_tryFrom_182 (hM5.1.2.1.2.2.2.2.2.2.2.1) (by omega) (by decide) ?_
        refine x_iadd dX6_tryFrom_183 ?_
        refine x_iastN dX6_tryFrom_184 (hM5.1.2.2) (by omega) (by decide) ?_
        refine x_iinc (v := nI (t + 1)) (ls' := [(4, .int (nI (t + 1))), (0, .ref (x + 47)), (1, .int (nI q)), (2, .int w), (3, .int mi)]) dX6_tryFrom_185 0 rfl (nIs _) (by decide) rfl ?_
        refine x_pc (pc' := 188) rfl ?_
        refine x_goto (tgt := 57) dX6_tryFrom_188 (by decide) ?_
        exact ihk (t + 1) (unR hk rk4 q t) _ (by omega) (hoff4.undo (by omega) (by omega) (by omega) hf c82) (by simp only [itF]; rw [if_pos c82]; exact hM5.row _)
theorem Mt_tryFrom {K : xG} {h x : Nat} {G0 : xHp} {hk : xHl} {rt : Option Nat} (hO : HallOk hk) : ∀ (n q : Nat), q + n = hk 0 3 → ∀ (r rk : xRw) (w mi : Int32) (tr : Nat → Int32) (B : xB) (G : xHp), Off9 r rk → MtW G0 G x hk rk rt tr B → xCall K mX6_tryFrom (n + 2) 0 0 [.ref (x + 47), .int (nI q), .int w, .int mi] h G (xEx (fun e : xRw × xHp => Off9 r e.1 ∧ MtW G0 e.2 x hk e.1 rt (dfsM hk n r q w mi (tr, B)).1 (dfsM hk n r q w mi (tr, B)).2) (fun _ => none) (fun _ => h) (fun e => e.2)) := by
  obtain ⟨o2, o3, o4, o5, -⟩ := id hO
  intro n
  induction n with
  | zero =>
    intro q hq r rk w mi tr B G hoff hM
    refine x_entry (by decide) (ls := [(0, .ref (x + 47)), (1, .int (nI q)), (2, .int w), (3, .int mi)]) rfl (Nat.le_of_ble_eq_true rfl) ?_
    refine x_iload_n dX6_tryFrom_0 1 rfl ?_
    refine x_aload_n dX6_tryFrom_1 0 rfl ?_
    refine x_get dX6_tryFrom_2 fX6_18 (hM.2.1) rfl ?_
    refine x_get dX6_tryFrom_5 fX6_30 (hM.1.1) rfl ?_
    refine x_get dX6_tryFrom_8 fX6_36 (hM.1.2.1.1) rfl ?_
    refine x_icmpN_ge (tgt := 19) dX6_tryFrom_11 (by decide) (by omega) (by omega) (fun c11 => ?_) (fun c11 => ?_)
    · refine x_aload_n dX6_tryFrom_19 0 rfl ?_
      refine x_iload_n dX6_tryFrom_20 2 rfl ?_
      refine x_iload_n dX6_tryFrom_21 3 rfl ?_
      refine x_pc (pc' := 22) rfl ?_
      refine x_cVe (N := mX6_keepIfBetter) (d' := 1) (mc := 0) (ms := 0) (cb := 0) (sb := 0) (As := [.int w, .int mi]) (st := []) dX6_tryFrom_22 mX6_keepIfBetter_v lX6_41 rfl rfl (hM.2.1) rfl (by decide) (Nat.le_of_ble_eq_true rfl) (Mt_keep hM) rfl (sf := fun G1 => []) (fun _ => rfl) (fun G1 hM1 => ?_)
      exact x_vret dX6_tryFrom_25 rfl (xEx_i (rk, G1) ⟨hoff, hM1⟩ rfl rfl rfl)
    · exact absurd c11 (by omega)
  | succ n ih =>
    intro q hq r rk w mi tr B G hoff hM
    refine x_entry (by decide) (ls := [(0, .ref (x + 47)), (1, .int (nI q)), (2, .int w), (3, .int mi)]) rfl (Nat.le_of_ble_eq_true rfl) ?_
    refine x_iload_n dX6_tryFrom_0 1 rfl ?_
    refine x_aload_n dX6_tryFrom_1 0 rfl ?_
    refine x_get dX6_tryFrom_2 fX6_18 (hM.2.1) rfl ?_
    refine x_get dX6_tryFrom_5 fX6_30 (hM.1.1) rfl ?_
    refine x_get dX6_tryFrom_8 fX6_36 (hM.1.2.1.1) rfl ?_
    refine x_icmpN_ge (tgt := 19) dX6_tryFrom_11 (by decide) (by omega) (by omega) (fun c11 => ?_) (fun c11 => ?_)
    · exact absurd c11 (by omega)
    · refine x_iload_n dX6_tryFrom_14 1 rfl ?_
      refine x_iconst dX6_tryFrom_15 ki_4 ?_
      refine x_icmpN_lt (tgt := 26) dX6_tryFrom_16 (by decide) (by omega) (by omega) (fun c16 => ?_) (fun c16 => ?_)
      · refine x_pc (pc' := 26) rfl ?_
        refine x_aload_n dX6_tryFrom_26 0 rfl ?_
        refine x_get dX6_tryFrom_27 fX6_9 (hM.2.1) rfl ?_
        refine x_iload_n dX6_tryFrom_30 1 rfl ?_
        refine x_iconst dX6_tryFrom_31 ki_m1 ?_
        refine x_iastN dX6_tryFrom_32 (hM.2.2.1) (by omega) (by decide) ?_
        have hM1 := hM.tried (upd tr q (-1))
        refine x_aload_n dX6_tryFrom_33 0 rfl ?_
        refine x_iload_n dX6_tryFrom_34 1 rfl ?_
        refine x_iconst dX6_tryFrom_35 ki_1 ?_
        refine x_iaddN dX6_tryFrom_36 ?_
        refine x_iload_n dX6_tryFrom_37 2 rfl ?_
        refine x_pc (pc' := 38) rfl ?_
        refine x_iload_n dX6_tryFrom_38 3 rfl ?_
        refine x_cVe (N := mX6_tryFrom) (d' := (n + 2)) (mc := 0) (ms := 0) (cb := 0) (sb := 0) (As := [.int (nI (q + 1)), .int w, .int mi]) (st := []) dX6_tryFrom_39 mX6_tryFrom_v lX6_26 rfl rfl (hM1.2.1) rfl (by omega) (Nat.le_of_ble_eq_true rfl) (ih (q + 1) (by omega) r rk w mi _ B _ hoff hM1) rfl (sf := fun e2 => []) (fun _ => rfl) (fun e2 hq2 => ?_)
        obtain ⟨rk2, G2⟩ := e2
        obtain ⟨hoff2, hM2⟩ := hq2
        simp only at hoff2 hM2
        refine x_aload_n dX6_tryFrom_42 0 rfl ?_
        refine x_get dX6_tryFrom_43 fX6_18 (hM2.2.1) rfl ?_
        refine x_iload_n dX6_tryFrom_46 1 rfl ?_
        refine x_cV (N := mX2_isFree) (d' := 0) (mc := 0) (ms := 0) (cb := 0) (sb := 0) (As := [.int (nI q)]) (st := []) dX6_tryFrom_47 mX2_isFree_v lX6_45 rfl rfl (hM2.1.1) rfl (by omega) (Nat.le_of_ble_eq_true rfl) (Day_isFree hM2.1 (by omega)) rfl (st1 := [.int (bI (decide (rk2 (5 + q) = -1)))]) rfl ?_
        refine x_ifB_ne (tgt := 54) dX6_tryFrom_50 (by decide) (fun c50 => ?_) (fun c50 => ?_)
        · rw [hoff2 (5 + q) (by omega)] at c50
          refine x_iconst dX6_tryFrom_54 ki_0 ?_
          refine x_istore (ls' := [(4, .int (nI 0)), (0, .ref (x + 47)), (1, .int (nI q)), (2, .int w), (3, .int mi)]) dX6_tryFrom_55 (by decide) rfl ?_
          refine x_post (fun v h2 G3 hq => ?_) (Mt_try_loop (S1 := (dfsM hk n r (q + 1) w mi (upd tr q (-1), B))) hO ih hq (of_decide_eq_true c50) (hk 0 4) 0 rk2 G2 (by omega) hoff2 hM2)
          simp only [dfsM]
          rw [if_pos (of_decide_eq_true c50)]
          exact hq
        · rw [hoff2 (5 + q) (by omega)] at c50
          exact x_vret dX6_tryFrom_53 rfl (xEx_i (rk2, G2) ⟨hoff2, by simp only [dfsM]; rw [if_neg (of_decide_eq_false c50)]; exact hM2⟩ rfl rfl rfl)
      · exact absurd c16 (by omega)
theorem Mt_search {K : xG} {h x : Nat} {G0 G : xHp} {hk : xHl} {r : xRw} {rt : Option Nat} {tr : Nat → Int32} {B : xB} (hO : HallOk hk) (hM : MtW G0 G x hk r rt tr B) : xCall K mX6_search 7 0 0 [.ref (x + 47)] h G (xEx (fun e : xRw × xHp => Off9 r e.1 ∧ MtW G0 e.2 x hk e.1 rt (dfsM hk (hk 0 3) r 0 (nI 0) (nI 0) (tr, (-1, B.2.1, B.2.2))).1 (dfsM hk (hk 0 3) r 0 (nI 0) (nI 0) (tr, (-1, B.2.1, B.2.2))).2) (fun _ => none) (fun _ => h) (fun e => e.2)) := by
  refine x_entry (by decide) (ls := [(0, .ref (x + 47))]) rfl (Nat.le_of_ble_eq_true rfl) ?_
  obtain ⟨o2, o3, -⟩ := id hO
  refine x_aload_n dX6_search_0 0 rfl ?_
  refine x_iconst dX6_search_1 ki_m1 ?_
  refine x_put (fs' := [.ref (x + 37), .ref (x + 48), .ref (x + 49), .int (-1), .int B.2.1]) dX6_search_2 fX6_22 (hM.2.1) (Nat.le_of_ble_eq_true rfl) rfl rfl rfl ?_
  have hM1 := hM.worth (-1)
  refine x_aload_n dX6_search_5 0 rfl ?_
  refine x_iconst dX6_search_6 ki_0 ?_
  refine x_iconst dX6_search_7 ki_0 ?_
  refine x_iconst dX6_search_8 ki_0 ?_
  refine x_cVe (N := mX6_tryFrom) (d' := (hk 0 3 + 2)) (mc := 0) (ms := 0) (cb := 0) (sb := 0) (As := [.int (nI 0), .int (nI 0), .int (nI 0)]) (st := []) dX6_search_9 mX6_tryFrom_v lX6_26 rfl rfl (hM1.2.1) rfl (by omega) (Nat.le_of_ble_eq_true rfl) (Mt_tryFrom hO (hk 0 3) 0 (by omega) r r (nI 0) (nI 0) tr _ _ Off9.rf hM1) rfl (sf := fun e2 => []) (fun _ => rfl) (fun e2 hq2 => ?_)
  obtain ⟨rk2, G2⟩ := e2
  exact x_vret dX6_search_12 rfl (xEx_i (rk2, G2) hq2 rfl rfl rfl)
