theorem Md_ma_loop {K : xG} {h y : Nat} {G0 G : xHp} {hl : xHl} {r : xRw} {sc : Nat × Nat × Int32} {A : Nat → Nat → Int32} {F : Nat → Int32} {wa sa : Nat → Int64} {t : Nat} {al : Nat → Nat} (hM : MW G0 G y hl r sc A F wa sa) (hal : AlR (A 43) al) (hl3 : ∀ j, al j < 1000) (ht : t < 7) : ∀ (i k : Nat), k + i = 5 → xV K mX12_mostAlike 0 0 0 h G 4 [(3, .int (nI k)), (2, .int (nI (mxF al t k))), (0, .ref y), (1, .int (nI t))] [] (xRet (some (.int (nI (mxF al t 5)))) h G) := by
  have hmx := fun k => mxF_lt (t := t) hl3 k
  intro i
  induction i with
  | zero =>
    intro k hi
    have hi0 : k = 5 := by omega
    subst hi0
    have hmk := hmx 5
    refine x_iload_n dX12_mostAlike_4 0 rfl ?_
    refine x_iconst dX12_mostAlike_5 ki_5 ?_
    refine x_icmpN_ge (tgt := 44) dX12_mostAlike_6 (by decide) (by omega) (by omega) (fun c6 => ?_) (fun c6 => ?_)
    · refine x_iload_n dX12_mostAlike_44 1 rfl ?_
      exact x_iret dX12_mostAlike_45 rfl (xRet_i)
    · exact absurd c6 (by decide)
  | succ i ih =>
    intro k hi
    have hmk := hmx k
    have hak := hl3 (t * 5 + k)
    refine x_iload_n dX12_mostAlike_4 0 rfl ?_
    refine x_iconst dX12_mostAlike_5 ki_5 ?_
    refine x_icmpN_ge (tgt := 44) dX12_mostAlike_6 (by decide) (by omega) (by omega) (fun c6 => ?_) (fun c6 => ?_)
    · exact absurd c6 (by omega)
    · refine x_aload_n dX12_mostAlike_9 2 rfl ?_
      refine x_get (v := .ref (y + 43)) dX12_mostAlike_10 fX12_142 (hM.1) rfl ?_
      refine x_iconst dX12_mostAlike_13 ki_5 ?_
      refine x_iload_n dX12_mostAlike_14 3 rfl ?_
      refine x_imulN dX12_mostAlike_15 ?_
      refine x_topi (y := nI (t * 5)) (by rw [Nat.mul_comm]) ?_
      refine x_iload_n dX12_mostAlike_16 0 rfl ?_
      refine x_pc (pc' := 17) rfl ?_
      refine x_iaddN dX12_mostAlike_17 ?_
      refine x_ialdN (n := 35) (f := A 43) dX12_mostAlike_18 (hM.c43) (by omega) (by decide) ?_
      refine x_topi (y := nI (al ((t * 5) + k))) (hal ((t * 5) + k) (by omega)) ?_
      refine x_iload_n dX12_mostAlike_19 1 rfl ?_
      refine x_icmpN_le (tgt := 36) dX12_mostAlike_20 (by decide) (by omega) (by omega) (fun c20 => ?_) (fun c20 => ?_)
      · refine x_iload_n dX12_mostAlike_36 1 rfl ?_
        refine x_istore_n (ls' := [(2, .int (nI (mxF al t k))), (3, .int (nI k)), (0, .ref y), (1, .int (nI t))]) dX12_mostAlike_37 (by decide) rfl ?_
        refine x_iinc (v := nI (k + 1)) (ls' := [(3, .int (nI (k + 1))), (2, .int (nI (mxF al t k))), (0, .ref y), (1, .int (nI t))]) dX12_mostAlike_38 1 rfl (nIs _) (by decide) rfl ?_
        refine x_goto (tgt := 4) dX12_mostAlike_41 (by decide) ?_
        have hih := ih (k + 1) (by omega)
        rw [mx_s, Nat.max_eq_left (by omega)] at hih
        exact hih
      · refine x_aload_n dX12_mostAlike_23 2 rfl ?_
        refine x_get (v := .ref (y + 43)) dX12_mostAlike_24 fX12_142 (hM.1) rfl ?_
        refine x_iconst dX12_mostAlike_27 ki_5 ?_
        refine x_iload_n dX12_mostAlike_28 3 rfl ?_
        refine x_imulN dX12_mostAlike_29 ?_
        refine x_topi (y := nI (t * 5)) (by rw [Nat.mul_comm]) ?_
        refine x_iload_n dX12_mostAlike_30 0 rfl ?_
        refine x_pc (pc' := 31) rfl ?_
        refine x_iaddN dX12_mostAlike_31 ?_
        refine x_ialdN (n := 35) (f := A 43) dX12_mostAlike_32 (hM.c43) (by omega) (by decide) ?_
        refine x_topi (y := nI (al ((t * 5) + k))) (hal ((t * 5) + k) (by omega)) ?_
        refine x_goto (tgt := 37) dX12_mostAlike_33 (by decide) ?_
        refine x_istore_n (ls' := [(2, .int (nI (al ((t * 5) + k)))), (3, .int (nI k)), (0, .ref y), (1, .int (nI t))]) dX12_mostAlike_37 (by decide) rfl ?_
        refine x_iinc (v := nI (k + 1)) (ls' := [(3, .int (nI (k + 1))), (2, .int (nI (al ((t * 5) + k)))), (0, .ref y), (1, .int (nI t))]) dX12_mostAlike_38 1 rfl (nIs _) (by decide) rfl ?_
        refine x_goto (tgt := 4) dX12_mostAlike_41 (by decide) ?_
        have hih := ih (k + 1) (by omega)
        rw [mx_s, Nat.max_eq_right (by omega)] at hih
        exact hih
theorem Md_mostAlike {K : xG} {h y : Nat} {G0 G : xHp} {hl : xHl} {r : xRw} {sc : Nat × Nat × Int32} {A : Nat → Nat → Int32} {F : Nat → Int32} {wa sa : Nat → Int64} {t : Nat} {al : Nat → Nat} (hM : MW G0 G y hl r sc A F wa sa) (hal : AlR (A 43) al) (hl3 : ∀ j, al j < 1000) (ht : t < 7) : xCall K mX12_mostAlike 0 0 0 [.ref y, .int (nI t)] h G (xRet (some (.int (nI (mxF al t 5)))) h G) := by
  refine x_entry (by decide) (ls := [(0, .ref y), (1, .int (nI t))]) rfl (Nat.le_of_ble_eq_true rfl) ?_
  refine x_iconst dX12_mostAlike_0 ki_0 ?_
  refine x_istore_n (ls' := [(2, .int (nI 0)), (0, .ref y), (1, .int (nI t))]) dX12_mostAlike_1 (by decide) rfl ?_
  refine x_iconst dX12_mostAlike_2 ki_0 ?_
  refine x_istore_n (ls' := [(3, .int (nI 0)), (2, .int (nI 0)), (0, .ref y), (1, .int (nI t))]) dX12_mostAlike_3 (by decide) rfl ?_
  exact Md_ma_loop hM hal hl3 ht 5 0 (by decide)
theorem Md_look_n {K : xG} {h y : Nat} {G0 G : xHp} {hl : xHl} {r : xRw} {sc : Nat × Nat × Int32} {A : Nat → Nat → Int32} {F : Nat → Int32} {wa sa : Nat → Int64} {v w : Int32} (hM : MW G0 G y hl r sc A F wa sa) (hO : HallOk hl) (hn : ¬ (0 < hl 0 0 ∧ inR v 400 = true ∧ inR w 2 = true)) : xCall K mX12_look 9 0 0 [.ref y, .int v, .int w] h G (xRet (some (.int (-1))) h G) := by
  refine x_entry (by decide) (ls := [(0, .ref y), (1, .int v), (2, .int w)]) rfl (Nat.le_of_ble_eq_true rfl) ?_
  have hB := hM.hB
  obtain ⟨o2, o3, o4, o5, o6, o7, o8, o9⟩ := id hO
  refine x_aload_n dX12_look_0 0 rfl ?_
  refine x_cV (N := mX12_isHall) (d' := 0) (mc := 0) (ms := 0) (cb := 0) (sb := 0) (As := []) (st := []) dX12_look_1 mX12_isHall_v lX12_425 rfl rfl (hM.1) rfl (by decide) (Nat.le_of_ble_eq_true rfl) (Md_isHall hM) rfl (st1 := [.int (bI (decide (0 < hl 0 0)))]) rfl ?_
  refine x_ifB_eq (tgt := 29) dX12_look_4 (by decide) (fun c4 => ?_) (fun c4 => ?_)
  · refine x_iconst dX12_look_29 ki_m1 ?_
    exact x_iret dX12_look_30 rfl (xRet_i)
  · refine x_iload_n dX12_look_7 1 rfl ?_
    refine x_i2l dX12_look_8 ?_
    refine x_lconst (v := 0) dX12_look_9 rfl ?_
    refine x_ldc2 dX12_look_10 cX12_484 ?_
    refine x_cS (N := mX12_in) (d' := 0) (mc := 0) (ms := 0) (cb := 0) (sb := 0) (As := [.long v.toInt64, .long 0, .long (399 : Int64)]) (st := []) dX12_look_13 mX12_in_s lX12_155 rfl (by decide) (Nat.le_of_ble_eq_true rfl) (Md_in) rfl (st1 := [.int (bI (decide (0 ≤ v.toInt64 ∧ v.toInt64 ≤ (399 : Int64))))]) rfl ?_
    refine x_ifB_eq (tgt := 29) dX12_look_16 (by decide) (fun c16 => ?_) (fun c16 => ?_)
    · refine x_pc (pc' := 29) rfl ?_
      refine x_iconst dX12_look_29 ki_m1 ?_
      exact x_iret dX12_look_30 rfl (xRet_i)
    · refine x_pc (pc' := 19) rfl ?_
      refine x_iload_n dX12_look_19 2 rfl ?_
      refine x_i2l dX12_look_20 ?_
      refine x_lconst (v := 0) dX12_look_21 rfl ?_
      refine x_lconst (v := 1) dX12_look_22 rfl ?_
      refine x_cS (N := mX12_in) (d' := 0) (mc := 0) (ms := 0) (cb := 0) (sb := 0) (As := [.long w.toInt64, .long 0, .long 1]) (st := []) dX12_look_23 mX12_in_s lX12_155 rfl (by decide) (Nat.le_of_ble_eq_true rfl) (Md_in) rfl (st1 := [.int (bI (decide (0 ≤ w.toInt64 ∧ w.toInt64 ≤ 1)))]) rfl ?_
      refine x_ifB_ne (tgt := 31) dX12_look_26 (by decide) (fun c26 => ?_) (fun c26 => ?_)
      · exact absurd ⟨of_decide_eq_true c4, (in_399 v).symm.trans c16, (in_01 w).symm.trans c26⟩ hn
      · refine x_iconst dX12_look_29 ki_m1 ?_
        exact x_iret dX12_look_30 rfl (xRet_i)
theorem Md_look_end {K : xG} {h y : Nat} {G0 : xHp} {hl : xHl} {r : xRw} {sc : Nat × Nat × Int32} {A Ax : Nat → Nat → Int32} {F Fx : Nat → Int32} {n : Nat} {w : Int32} {w1 k1 : Nat → Int64} {G1 : xHp} {rs : List (List Nat)} {bk : Nat → Nat → Nat} {bn : Nat} (hO : HallOk hl) (hN : MW G0 G1 y hl r sc Ax Fx w1 k1) (hax : AS A Ax) (hfs : FS F Fx) (hal : AlR (Ax 43) (alF hl rs (fun j => fitB hl bk bn (rvJ rs j)) n (rs.length + 1))) (hl3 : ∀ j, (alF hl rs (fun j => fitB hl bk bn (rvJ rs j)) n (rs.length + 1)) j < 1000) (hc0 : ¬ cntF (fun j => fitB hl bk bn (rvJ rs j)) (rs.length + 1) = 0) (hc9 : cntF (fun j => fitB hl bk bn (rvJ rs j)) (rs.length + 1) < 1000) : ∀ (i t b : Nat), t + i = hl 0 4 → 1 ≤ t → ptF (alF hl rs (fun j => fitB hl bk bn (rvJ rs j)) n (rs.length + 1)) t = some b → xV K mX12_look 9 0 0 h G1 155 [(5, .int (nI t)), (4, .int (nI b)), (3, .int (nI (cntF (fun j => fitB hl bk bn (rvJ rs j)) (rs.length + 1)))), (0, .ref y), (1, .int (nI n)), (2, .int w)] [] (xEx (fun e : ((Nat → Nat → Int32) × (Nat → Int32)) × ((Nat → Int64) × (Nat → Int64)) × xHp => MW G0 e.2.2 y hl r sc e.1.1 e.1.2 e.2.1.1 e.2.1.2 ∧ AS A e.1.1 ∧ FS F e.1.2) (fun _ => some (.int (match ptF (alF hl rs (fun j => fitB hl bk bn (rvJ rs j)) n (rs.length + 1)) (hl 0 4) with | none => -2 | some t => if cntF (fun j => fitB hl bk bn (rvJ rs j)) (rs.length + 1) = 0 then -2 else if w = 0 then nI t else nI (mxF (alF hl rs (fun j => fitB hl bk bn (rvJ rs j)) n (rs.length + 1)) t 5)))) (fun _ => h) (fun e => e.2.2)) := by
  obtain ⟨o2, o3, o4, o5, o6, o7, o8, o9⟩ := id hO
  intro i
  induction i with
  | zero =>
    intro t b hi h1 hpt
    have hi0 : t = hl 0 4 := by omega
    subst hi0
    have hbl := ptF_lt hpt
    have hmb := mxF_lt (t := b) hl3 5
    refine x_iload dX12_look_155 0 rfl ?_
    refine x_aload_n dX12_look_157 3 rfl ?_
    refine x_get (v := .ref (y + 1)) dX12_look_158 fX12_9 (hN.1) rfl ?_
    refine x_iconst dX12_look_161 ki_4 ?_
    refine x_ialdN (n := 9) (f := scal hl r sc) dX12_look_162 (hN.c1) (by decide) (by decide) ?_
    refine x_topi (y := nI (hl 0 4)) rfl ?_
    refine x_icmpN_ge (tgt := 196) dX12_look_163 (by decide) (by omega) (by omega) (fun c163 => ?_) (fun c163 => ?_)
    · refine x_iload_n dX12_look_196 5 rfl ?_
      refine x_if_ne (tgt := 205) dX12_look_197 (by decide) (fun c197 => ?_) (fun c197 => ?_)
      · refine x_aload_n dX12_look_205 3 rfl ?_
        refine x_pc (pc' := 206) rfl ?_
        refine x_iload dX12_look_206 1 rfl ?_
        refine x_cV (N := mX12_mostAlike) (d' := 0) (mc := 0) (ms := 0) (cb := 0) (sb := 0) (As := [.int (nI b)]) (st := []) dX12_look_208 mX12_mostAlike_v lX12_491 rfl rfl (hN.1) rfl (by decide) (Nat.le_of_ble_eq_true rfl) (Md_mostAlike hN hal hl3 (by omega)) rfl (st1 := [.int (nI (mxF (alF hl rs (fun j => fitB hl bk bn (rvJ rs j)) n (rs.length + 1)) b 5))]) rfl ?_
        exact x_iret dX12_look_211 rfl (xEx_i ((Ax, Fx), (w1, k1), G1) ⟨hN, hax, hfs⟩ (by rw [hpt]; show _ = some (Value.int (if _ then _ else _)); rw [if_neg hc0, if_neg (show ¬ w = 0 from c197)]) rfl rfl)
      · refine x_iload dX12_look_200 1 rfl ?_
        refine x_pc (pc' := 202) rfl ?_
        refine x_goto (tgt := 211) dX12_look_202 (by decide) ?_
        exact x_iret dX12_look_211 rfl (xEx_i ((Ax, Fx), (w1, k1), G1) ⟨hN, hax, hfs⟩ (by rw [hpt]; show _ = some (Value.int (if _ then _ else _)); rw [if_neg hc0, if_pos (show w = 0 from c197)]) rfl rfl)
    · exact absurd c163 (by omega)
  | succ i ih =>
    intro t b hi h1 hpt
    have hbl := ptF_lt hpt
    have hmb := mxF_lt (t := b) hl3 5
    have hmt := mxF_lt (t := t) hl3 5
    refine x_iload dX12_look_155 0 rfl ?_
    refine x_aload_n dX12_look_157 3 rfl ?_
    refine x_get (v := .ref (y + 1)) dX12_look_158 fX12_9 (hN.1) rfl ?_
    refine x_iconst dX12_look_161 ki_4 ?_
    refine x_ialdN (n := 9) (f := scal hl r sc) dX12_look_162 (hN.c1) (by decide) (by decide) ?_
    refine x_topi (y := nI (hl 0 4)) rfl ?_
    refine x_icmpN_ge (tgt := 196) dX12_look_163 (by decide) (by omega) (by omega) (fun c163 => ?_) (fun c163 => ?_)
    · exact absurd c163 (by omega)
    · refine x_aload_n dX12_look_166 3 rfl ?_
      refine x_iload dX12_look_167 0 rfl ?_
      refine x_cV (N := mX12_mostAlike) (d' := 0) (mc := 0) (ms := 0) (cb := 0) (sb := 0) (As := [.int (nI t)]) (st := []) dX12_look_169 mX12_mostAlike_v lX12_491 rfl rfl (hN.1) rfl (by decide) (Nat.le_of_ble_eq_true rfl) (Md_mostAlike hN hal hl3 (by omega)) rfl (st1 := [.int (nI (mxF (alF hl rs (fun j => fitB hl bk bn (rvJ rs j)) n (rs.length + 1)) t 5))]) rfl ?_
      refine x_pc (pc' := 172) rfl ?_
      refine x_aload_n dX12_look_172 3 rfl ?_
      refine x_iload dX12_look_173 1 rfl ?_
      refine x_cV (N := mX12_mostAlike) (d' := 0) (mc := 0) (ms := 0) (cb := 0) (sb := 0) (As := [.int (nI b)]) (st := [.int (nI (mxF (alF hl rs (fun j => fitB hl bk bn (rvJ rs j)) n (rs.length + 1)) t 5))]) dX12_look_175 mX12_mostAlike_v lX12_491 rfl rfl (hN.1) rfl (by decide) (Nat.le_of_ble_eq_true rfl) (Md_mostAlike hN hal hl3 (by omega)) rfl (st1 := [.int (nI (mxF (alF hl rs (fun j => fitB hl bk bn (rvJ rs j)) n (rs.length + 1)) b 5)), .int (nI (mxF (alF hl rs (fun j => fitB hl bk bn (rvJ rs j)) n (rs.length + 1)) t 5))]) rfl ?_
      refine x_icmpN_ge (tgt := 186) dX12_look_178 (by decide) (by omega) (by omega) (fun c178 => ?_) (fun c178 => ?_)
      · refine x_iload dX12_look_186 1 rfl ?_
        refine x_istore (ls' := [(4, .int (nI b)), (5, .int (nI t)), (3, .int (nI (cntF (fun j => fitB hl bk bn (rvJ rs j)) (rs.length + 1)))), (0, .ref y), (1, .int (nI n)), (2, .int w)]) dX12_look_188 (by decide) rfl ?_
        refine x_iinc (v := nI (t + 1)) (ls' := [(5, .int (nI (t + 1))), (4, .int (nI b)), (3, .int (nI (cntF (fun j => fitB hl bk bn (rvJ rs j)) (rs.length + 1)))), (0, .ref y), (1, .int (nI n)), (2, .int w)]) dX12_look_190 1 rfl (nIs _) (by decide) rfl ?_
        refine x_goto (tgt := 155) dX12_look_193 (by decide) ?_
        exact ih (t + 1) b (by omega) (by omega) (ptF_b hpt (by omega))
      · refine x_iload dX12_look_181 0 rfl ?_
        refine x_goto (tgt := 188) dX12_look_183 (by decide) ?_
        refine x_istore (ls' := [(4, .int (nI t)), (5, .int (nI t)), (3, .int (nI (cntF (fun j => fitB hl bk bn (rvJ rs j)) (rs.length + 1)))), (0, .ref y), (1, .int (nI n)), (2, .int w)]) dX12_look_188 (by decide) rfl ?_
        refine x_iinc (v := nI (t + 1)) (ls' := [(5, .int (nI (t + 1))), (4, .int (nI t)), (3, .int (nI (cntF (fun j => fitB hl bk bn (rvJ rs j)) (rs.length + 1)))), (0, .ref y), (1, .int (nI n)), (2, .int w)]) dX12_look_190 1 rfl (nIs _) (by decide) rfl ?_
        refine x_goto (tgt := 155) dX12_look_193 (by decide) ?_
        exact ih (t + 1) t (by omega) (by omega) (ptF_a hpt (by omega))
theorem Md_look_in {K : xG} {h y : Nat} {G0 : xHp} {hl : xHl} {r : xRw} {sc : Nat × Nat × Int32} {Ab : Nat → Nat → Int32} {Fx : Nat → Int32} {n : Nat} {w : Int32} {w1 k1 : Nat → Int64} {Q : xPost} {cc : Nat} {vj : Int32} {rv : Option (List Nat)} {al : Nat → Nat} (hO : HallOk hl) (hrw : RowOk hl (goN hl rv (clearR hl) (n + 1))) (hsh : ∀ t, t < 7 → Ab 42 t = (goN hl rv (clearR hl) (n + 1)) (21 + t)) (next : ∀ g G2, AlR g (noteF (goN hl rv (clearR hl) (n + 1)) al (hl 0 4)) → MW G0 G2 y hl r sc (setA Ab 43 g) Fx w1 k1 → xV K mX12_look 9 0 0 h G2 127 [(5, .int (nI (hl 0 4))), (4, .int vj), (3, .int (nI cc)), (0, .ref y), (1, .int (nI n)), (2, .int w)] [] (Q)) : ∀ (i t : Nat) (g : Nat → Int32) (G1 : xHp), t + i = hl 0 4 → AlR g (noteF (goN hl rv (clearR hl) (n + 1)) al t) → MW G0 G1 y hl r sc (setA Ab 43 g) Fx w1 k1 → xV K mX12_look 9 0 0 h G1 89 [(5, .int (nI t)), (4, .int vj), (3, .int (nI cc)), (0, .ref y), (1, .int (nI n)), (2, .int w)] [] (Q) := by
  obtain ⟨o2, o3, o4, o5, o6, o7, o8, o9⟩ := id hO
  intro i
  induction i with
  | zero =>
    intro t g G1 hi hal hN
    have hi0 : t = hl 0 4 := by omega
    subst hi0
    refine x_iload dX12_look_89 0 rfl ?_
    refine x_aload_n dX12_look_91 3 rfl ?_
    refine x_get (v := .ref (y + 1)) dX12_look_92 fX12_9 (hN.1) rfl ?_
    refine x_iconst dX12_look_95 ki_4 ?_
    refine x_ialdN (n := 9) (f := scal hl r sc) dX12_look_96 (hN.c1) (by decide) (by decide) ?_
    refine x_topi (y := nI (hl 0 4)) rfl ?_
    refine x_icmpN_ge (tgt := 127) dX12_look_97 (by decide) (by omega) (by omega) (fun c97 => ?_) (fun c97 => ?_)
    · exact next g G1 hal hN
    · exact absurd c97 (by omega)
  | succ i ih =>
    intro t g G1 hi hal hN
    have hlt5 := (how_nI (hrw.1 t (by omega))).2
    refine x_iload dX12_look_89 0 rfl ?_
    refine x_aload_n dX12_look_91 3 rfl ?_
    refine x_get (v := .ref (y + 1)) dX12_look_92 fX12_9 (hN.1) rfl ?_
    refine x_iconst dX12_look_95 ki_4 ?_
    refine x_ialdN (n := 9) (f := scal hl r sc) dX12_look_96 (hN.c1) (by decide) (by decide) ?_
    refine x_topi (y := nI (hl 0 4)) rfl ?_
    refine x_icmpN_ge (tgt := 127) dX12_look_97 (by decide) (by omega) (by omega) (fun c97 => ?_) (fun c97 => ?_)
    · exact absurd c97 (by omega)
    · refine x_aload_n dX12_look_100 3 rfl ?_
      refine x_get (v := .ref (y + 43)) dX12_look_101 fX12_142 (hN.1) rfl ?_
      refine x_iconst dX12_look_104 ki_5 ?_
      refine x_pc (pc' := 105) rfl ?_
      refine x_iload dX12_look_105 0 rfl ?_
      refine x_imulN dX12_look_107 ?_
      refine x_topi (y := nI (t * 5)) (by rw [Nat.mul_comm]) ?_
      refine x_aload_n dX12_look_108 3 rfl ?_
      refine x_get (v := .ref (y + 42)) dX12_look_109 fX12_139 (hN.1) rfl ?_
      refine x_iload dX12_look_112 0 rfl ?_
      refine x_ialdN (n := 7) (f := Ab 42) dX12_look_114 (hN.c42) (by omega) (by decide) ?_
      refine x_topi (y := nI (thN ((goN hl rv (clearR hl) (n + 1)) (21 + t)))) ((hsh t (by omega)).trans (how_nI (hrw.1 t (by omega))).1) ?_
      refine x_iaddN dX12_look_115 ?_
      refine x_dup2 dX12_look_116 rfl rfl ?_
      refine x_ialdN (n := 35) (f := g) dX12_look_117 (hN.c43) (by omega) (by decide) ?_
      refine x_topi (y := nI ((noteF (goN hl rv (clearR hl) (n + 1)) al t) ((t * 5) + (thN ((goN hl rv (clearR hl) (n + 1)) (21 + t)))))) (hal ((t * 5) + (thN ((goN hl rv (clearR hl) (n + 1)) (21 + t)))) (by omega)) ?_
      refine x_iconst dX12_look_118 ki_1 ?_
      refine x_pc (pc' := 119) rfl ?_
      refine x_iaddN dX12_look_119 ?_
      refine x_iastN (n := 35) (f := g) dX12_look_120 (hN.c43) (by omega) (by decide) ?_
      have hM1 := hN.a43 (upd g ((t * 5) + (thN ((goN hl rv (clearR hl) (n + 1)) (21 + t)))) (nI (((noteF (goN hl rv (clearR hl) (n + 1)) al t) ((t * 5) + (thN ((goN hl rv (clearR hl) (n + 1)) (21 + t))))) + 1)))
      refine x_iinc (v := nI (t + 1)) (ls' := [(5, .int (nI (t + 1))), (4, .int vj), (3, .int (nI cc)), (0, .ref y), (1, .int (nI n)), (2, .int w)]) dX12_look_121 0 rfl (nIs _) (by decide) rfl ?_
      refine x_goto (tgt := 89) dX12_look_124 (by decide) ?_
      have hNx := hM1
      rw [setA_up] at hNx
      exact ih (t + 1) _ _ (by omega) hal.up hNx
theorem Md_look_loop {K : xG} {h y : Nat} {G0 : xHp} {hl : xHl} {r : xRw} {sc : Nat × Nat × Int32} {A : Nat → Nat → Int32} {F : Nat → Int32} {n : Nat} {w : Int32} {rs : List (List Nat)} {bk : Nat → Nat → Nat} {bn : Nat} (hO : HallOk hl) (hVs : ∀ j, j ≤ rs.length → RvR A (sc.1, sc.2.1, nI j + (-1)) (rvJ rs j)) (hr6 : rs.length ≤ 6) (hsc : sc.1 = bn) (hbk : BkR A bk bn) (hbo : BkOk hl bk bn) (hp2 : ∀ s, s < hl 0 2 → hl 2 s < 200) (hn : n < 400) (hk : Kept (A 44) hl r sc) (hb : ∀ i j, hl i j < 1000000) (h31 : F 31 = nI rs.length) : ∀ (i j : Nat) (f g Fx : Nat → Int32) (w1 k1 : Nat → Int64) (G1 : xHp), j + i = rs.length + 1 → FS F Fx → AlR g (alF hl rs (fun j => fitB hl bk bn (rvJ rs j)) n j) → MW G0 G1 y hl r sc (setA (setA A 42 f) 43 g) Fx w1 k1 → xV K mX12_look 9 0 0 h G1 64 [(4, .int (nI j + (-1))), (3, .int (nI (cntF (fun j => fitB hl bk bn (rvJ rs j)) j))), (0, .ref y), (1, .int (nI n)), (2, .int w)] [] (xEx (fun e : ((Nat → Nat → Int32) × (Nat → Int32)) × ((Nat → Int64) × (Nat → Int64)) × xHp => MW G0 e.2.2 y hl r sc e.1.1 e.1.2 e.2.1.1 e.2.1.2 ∧ AS A e.1.1 ∧ FS F e.1.2) (fun _ => some (.int (match ptF (alF hl rs (fun j => fitB hl bk bn (rvJ rs j)) n (rs.length + 1)) (hl 0 4) with | none => -2 | some t => if cntF (fun j => fitB hl bk bn (rvJ rs j)) (rs.length + 1) = 0 then -2 else if w = 0 then nI t else nI (mxF (alF hl rs (fun j => fitB hl bk bn (rvJ rs j)) n (rs.length + 1)) t 5)))) (fun _ => h) (fun e => e.2.2)) := by
  obtain ⟨o2, o3, o4, o5, o6, o7, o8, o9⟩ := id hO
  intro i
  induction i with
  | zero =>
    intro j f g Fx w1 k1 G1 hi hfs hal hN
    have hi0 : j = rs.length + 1 := by omega
    subst hi0
    have hcl := cnt_le (p := (fun j => fitB hl bk bn (rvJ rs j))) (rs.length + 1)
    have hax : AS A (setA (setA A 42 f) 43 g) := (AS.rf.st (by decide)).st (by decide)
    refine x_iload dX12_look_64 0 rfl ?_
    refine x_aload_n dX12_look_66 2 rfl ?_
    refine x_get (v := .int (Fx 31)) dX12_look_67 fX12_340 (hN.1) rfl ?_
    refine x_topi (y := nI rs.length) (hfs.2.1.trans h31) ?_
    refine x_icmp_ge (x := nI (rs.length + 1) + (-1)) (y := nI rs.length) (tgt := 133) dX12_look_70 (by decide) (fun c70 => ?_) (fun c70 => ?_)
    · refine x_iload_n dX12_look_133 1 rfl ?_
      refine x_ifN_eq (tgt := 146) dX12_look_134 (by decide) (by omega) (fun c134 => ?_) (fun c134 => ?_)
      · refine x_bipush dX12_look_146 kb_m2 ?_
        exact x_iret dX12_look_148 rfl (xEx_i (((setA (setA A 42 f) 43 g), Fx), (w1, k1), G1) ⟨hN, hax, hfs⟩ (by rcases hpt : ptF (alF hl rs (fun j => fitB hl bk bn (rvJ rs j)) n (rs.length + 1)) (hl 0 4) with _ | t <;> first | rfl | (show _ = some (Value.int (if _ then _ else _)); rw [if_pos c134])) rfl rfl)
      · refine x_aload_n dX12_look_137 2 rfl ?_
        refine x_get (v := .ref (y + 1)) dX12_look_138 fX12_9 (hN.1) rfl ?_
        refine x_iconst dX12_look_141 ki_4 ?_
        refine x_pc (pc' := 142) rfl ?_
        refine x_ialdN (n := 9) (f := scal hl r sc) dX12_look_142 (hN.c1) (by decide) (by decide) ?_
        refine x_topi (y := nI (hl 0 4)) rfl ?_
        refine x_ifN_ne (tgt := 149) dX12_look_143 (by decide) (by omega) (fun c143 => ?_) (fun c143 => ?_)
        · refine x_iconst dX12_look_149 ki_0 ?_
          refine x_istore (ls' := [(4, .int (nI 0)), (3, .int (nI (cntF (fun j => fitB hl bk bn (rvJ rs j)) (rs.length + 1)))), (0, .ref y), (1, .int (nI n)), (2, .int w)]) dX12_look_150 (by decide) rfl ?_
          refine x_iconst dX12_look_152 ki_1 ?_
          refine x_istore (ls' := [(5, .int (nI 1)), (4, .int (nI 0)), (3, .int (nI (cntF (fun j => fitB hl bk bn (rvJ rs j)) (rs.length + 1)))), (0, .ref y), (1, .int (nI n)), (2, .int w)]) dX12_look_153 (by decide) rfl ?_
          exact Md_look_end (rs := rs) (bk := bk) (bn := bn) hO hN hax hfs hal (alF_lt hO hp2 (rs.length + 1) (by omega)) c134 (by omega) (hl 0 4 - 1) 1 0 (by omega) (by decide) rfl
        · refine x_bipush dX12_look_146 kb_m2 ?_
          exact x_iret dX12_look_148 rfl (xEx_i (((setA (setA A 42 f) 43 g), Fx), (w1, k1), G1) ⟨hN, hax, hfs⟩ (by rw [c143]; rfl) rfl rfl)
    · exact absurd ((j_ge (j := rs.length + 1) (rc := rs.length) (by omega) (by omega)).mpr (by omega)) c70
  | succ i ih =>
    intro j f g Fx w1 k1 G1 hi hfs hal hN
    have hcl := cnt_le (p := (fun j => fitB hl bk bn (rvJ rs j))) j
    have hcl0 := clear_ok hO hp2
    refine x_iload dX12_look_64 0 rfl ?_
    refine x_aload_n dX12_look_66 2 rfl ?_
    refine x_get (v := .int (Fx 31)) dX12_look_67 fX12_340 (hN.1) rfl ?_
    refine x_topi (y := nI rs.length) (hfs.2.1.trans h31) ?_
    refine x_icmp_ge (x := nI j + (-1)) (y := nI rs.length) (tgt := 133) dX12_look_70 (by decide) (fun c70 => ?_) (fun c70 => ?_)
    · exact absurd ((j_ge (j := j) (rc := rs.length) (by omega) (by omega)).mp c70) (by omega)
    · refine x_aload_n dX12_look_73 2 rfl ?_
      refine x_iload dX12_look_74 0 rfl ?_
      refine x_iload_n dX12_look_76 3 rfl ?_
      refine x_cVe (N := mX12_couldRule) (d' := 8) (mc := 0) (ms := 0) (cb := 0) (sb := 0) (As := [.int (nI j + (-1)), .int (nI n)]) (st := []) dX12_look_77 mX12_couldRule_v lX12_488 rfl rfl (hN.1) rfl (by decide) (Nat.le_of_ble_eq_true rfl) (Md_couldRule (rv := rvJ rs j) (bk := bk) (bn := bn) hN hk hb hO (((hVs j (by omega)).set (by omega)).set (by omega)) hsc (hbk.cong rfl rfl rfl) hbo hp2) rfl (sf := fun e2 => [.int (bI (fitB hl bk bn (rvJ rs j)))]) (fun _ => rfl) (fun e2 hqx => ?_)
      obtain ⟨⟨f2, F2⟩, ⟨w2, k2⟩, G2⟩ := e2
      obtain ⟨hq2, hq3, hq4⟩ := hqx
      change ShR f2 hl (rvJ rs j) (nI n) 400 at hq4
      have hN2 : MW G0 G2 y hl r sc (setA (setA A 42 f2) 43 g) F2 w2 k2 := by have e := hq2; change MW G0 G2 y hl r sc (setA (setA (setA A 42 f) 43 g) 42 f2) F2 w2 k2 at e; rw [setA_comm (by decide), setA_up] at e; exact e
      have hfs2 : FS F F2 := hfs.tr hq3
      refine x_ifB_eq (tgt := 127) dX12_look_80 (by decide) (fun c80 => ?_) (fun c80 => ?_)
      · refine x_pc (pc' := 127) rfl ?_
        refine x_iinc (v := nI j + (-1) + (1)) (ls' := [(4, .int (nI j + (-1) + (1))), (3, .int (nI (cntF (fun j => fitB hl bk bn (rvJ rs j)) j))), (0, .ref y), (1, .int (nI n)), (2, .int w)]) dX12_look_127 0 rfl rfl (by decide) rfl ?_
        refine x_goto (tgt := 64) dX12_look_130 (by decide) ?_
        have e2 : cntF (fun j => fitB hl bk bn (rvJ rs j)) (j + 1) = cntF (fun j => fitB hl bk bn (rvJ rs j)) j := (cntF_f (p := (fun j => fitB hl bk bn (rvJ rs j))) c80).symm
        have e3 : (alF hl rs (fun j => fitB hl bk bn (rvJ rs j)) n (j + 1)) = (alF hl rs (fun j => fitB hl bk bn (rvJ rs j)) n j) := alF_k c80
        have hih := ih (j + 1) f2 g F2 w2 k2 G2 (by omega) hfs2 (by rw [e3]; exact hal) hN2
        rw [e2, ← j_s j] at hih
        exact hih
      · refine x_pc (pc' := 83) rfl ?_
        refine x_iinc (v := nI (cntF (fun j => fitB hl bk bn (rvJ rs j)) j + 1)) (ls' := [(3, .int (nI (cntF (fun j => fitB hl bk bn (rvJ rs j)) j + 1))), (4, .int (nI j + (-1))), (0, .ref y), (1, .int (nI n)), (2, .int w)]) dX12_look_83 1 rfl (nIs _) (by decide) rfl ?_
        refine x_iconst dX12_look_86 ki_0 ?_
        refine x_istore (ls' := [(5, .int (nI 0)), (3, .int (nI (cntF (fun j => fitB hl bk bn (rvJ rs j)) j + 1))), (4, .int (nI j + (-1))), (0, .ref y), (1, .int (nI n)), (2, .int w)]) dX12_look_87 (by decide) rfl ?_
        refine x_perm (ls' := [(5, .int (nI 0)), (4, .int (nI j + (-1))), (3, .int (nI (cntF (fun j => fitB hl bk bn (rvJ rs j)) j + 1))), (0, .ref y), (1, .int (nI n)), (2, .int w)]) [0, 2, 1, 3, 4, 5] rfl ?_
        refine Md_look_in (rv := rvJ rs j) (al := (alF hl rs (fun j => fitB hl bk bn (rvJ rs j)) n j)) (Ab := setA A 42 f2) hO (goN_ok hO hcl0 (n + 1)) (fun t ht => hq4 n hn rfl t ht) (fun g3 G3 hal3 hN3 => ?_) (hl 0 4) 0 g _ (by omega) hal hN2
        refine x_iinc (v := nI j + (-1) + (1)) (ls' := [(4, .int (nI j + (-1) + (1))), (5, .int (nI (hl 0 4))), (3, .int (nI (cntF (fun j => fitB hl bk bn (rvJ rs j)) j + 1))), (0, .ref y), (1, .int (nI n)), (2, .int w)]) dX12_look_127 1 rfl rfl (by decide) rfl ?_
        refine x_goto (tgt := 64) dX12_look_130 (by decide) ?_
        refine x_perm (ls' := [(4, .int (nI j + (-1) + (1))), (3, .int (nI (cntF (fun j => fitB hl bk bn (rvJ rs j)) j + 1))), (0, .ref y), (1, .int (nI n)), (2, .int w)]) [0, 2, 3, 4, 5] rfl ?_
        have e2 : cntF (fun j => fitB hl bk bn (rvJ rs j)) (j + 1) = cntF (fun j => fitB hl bk bn (rvJ rs j)) j + 1 := (cntF_t (p := (fun j => fitB hl bk bn (rvJ rs j))) c80).symm
        have e3 := alF_n (hl := hl) (rs := rs) (p := (fun j => fitB hl bk bn (rvJ rs j))) (n := n) c80
        have hih := ih (j + 1) f2 g3 F2 w2 k2 G3 (by omega) hfs2 (by rw [e3]; exact hal3) hN3
        rw [e2, ← j_s j] at hih
        exact hih
theorem Md_look_cl {K : xG} {h y : Nat} {G0 : xHp} {hl : xHl} {r : xRw} {sc : Nat × Nat × Int32} {A : Nat → Nat → Int32} {F : Nat → Int32} {wa sa : Nat → Int64} {n : Nat} {w : Int32} {rs : List (List Nat)} {bk : Nat → Nat → Nat} {bn : Nat} (hO : HallOk hl) (hVs : ∀ j, j ≤ rs.length → RvR A (sc.1, sc.2.1, nI j + (-1)) (rvJ rs j)) (hr6 : rs.length ≤ 6) (hsc : sc.1 = bn) (hbk : BkR A bk bn) (hbo : BkOk hl bk bn) (hp2 : ∀ s, s < hl 0 2 → hl 2 s < 200) (hn : n < 400) (hB : ∀ i j, hl i j < 1000000) (h31 : F 31 = nI rs.length) : ∀ (i k : Nat) (G1 : xHp), k + i = 35 → MW G0 G1 y hl r sc (setA A 43 (clF (A 43) (nI 0) k)) F wa sa → xV K mX12_look 9 0 0 h G1 33 [(3, .int (nI k)), (0, .ref y), (1, .int (nI n)), (2, .int w)] [] (mdK G0 h y (some (.int (match ptF (alF hl rs (fun j => fitB hl bk bn (rvJ rs j)) n (rs.length + 1)) (hl 0 4) with | none => -2 | some t => if cntF (fun j => fitB hl bk bn (rvJ rs j)) (rs.length + 1) = 0 then -2 else if w = 0 then nI t else nI (mxF (alF hl rs (fun j => fitB hl bk bn (rvJ rs j)) n (rs.length + 1)) t 5)))) hl r sc A F) := by
  obtain ⟨o2, o3, o4, o5, o6, o7, o8, o9⟩ := id hO
  intro i
  induction i with
  | zero =>
    intro k G1 hi hN
    have hi0 : k = 35 := by omega
    subst hi0
    refine x_iload_n dX12_look_33 0 rfl ?_
    refine x_aload_n dX12_look_34 1 rfl ?_
    refine x_get (v := .ref (y + 43)) dX12_look_35 fX12_142 (hN.1) rfl ?_
    refine x_alen (n := 35) dX12_look_38 (by decide) (hN.c43) ?_
    refine x_icmpN_ge (tgt := 55) dX12_look_39 (by decide) (by omega) (by omega) (fun c39 => ?_) (fun c39 => ?_)
    · refine x_aload_n dX12_look_55 1 rfl ?_
      refine x_cVe (N := mX12_keepsAll) (d' := 2) (mc := 0) (ms := 0) (cb := 0) (sb := 0) (As := []) (st := []) dX12_look_56 mX12_keepsAll_v lX12_441 rfl rfl (hN.1) rfl (by decide) (Nat.le_of_ble_eq_true rfl) (Md_keepsAll hN) rfl (sf := fun G2 => []) (fun _ => rfl) (fun G2 hN1 => ?_)
      refine x_iconst dX12_look_59 ki_0 ?_
      refine x_istore_n (ls' := [(3, .int (nI 0)), (0, .ref y), (1, .int (nI n)), (2, .int w)]) dX12_look_60 (by decide) rfl ?_
      refine x_pc (pc' := 61) rfl ?_
      refine x_iconst dX12_look_61 ki_m1 ?_
      refine x_istore (ls' := [(4, .int (-1)), (3, .int (nI 0)), (0, .ref y), (1, .int (nI n)), (2, .int w)]) dX12_look_62 (by decide) rfl ?_
      refine x_leq (ls' := [(4, .int (nI 0 + (-1))), (3, .int (nI (cntF (fun j => fitB hl bk bn (rvJ rs j)) 0))), (0, .ref y), (1, .int (nI n)), (2, .int w)]) rfl ?_
      have hse : setA (setA (setA (setA A 43 (clF (A 43) (nI 0) 35)) 44 (svI (ovr (setA A 43 (clF (A 43) (nI 0) 35)) hl r sc) 3600 9)) 42 ((setA (setA A 43 (clF (A 43) (nI 0) 35)) 44 (svI (ovr (setA A 43 (clF (A 43) (nI 0) 35)) hl r sc) 3600 9)) 42)) 43 ((setA (setA A 43 (clF (A 43) (nI 0) 35)) 44 (svI (ovr (setA A 43 (clF (A 43) (nI 0) 35)) hl r sc) 3600 9)) 43) = (setA (setA A 43 (clF (A 43) (nI 0) 35)) 44 (svI (ovr (setA A 43 (clF (A 43) (nI 0) 35)) hl r sc) 3600 9)) := by rw [setA_self (A := (setA (setA A 43 (clF (A 43) (nI 0) 35)) 44 (svI (ovr (setA A 43 (clF (A 43) (nI 0) 35)) hl r sc) 3600 9))) (k := 42) rfl]; exact setA_self rfl
      refine x_post (fun v h2 G9 hq => ?_) (Md_look_loop (A := (setA (setA A 43 (clF (A 43) (nI 0) 35)) 44 (svI (ovr (setA A 43 (clF (A 43) (nI 0) 35)) hl r sc) 3600 9))) (F := cF F 0 3650) (n := n) (w := w) (rs := rs) (bk := bk) (bn := bn) hO (fun j hj => ((hVs j hj).set (by omega)).set (by omega)) hr6 hsc (hbk.cong rfl rfl rfl) hbo hp2 hn (Kept_sv (A := (setA A 43 (clF (A 43) (nI 0) 35)))) hB h31 (rs.length + 1) 0 ((setA (setA A 43 (clF (A 43) (nI 0) 35)) 44 (svI (ovr (setA A 43 (clF (A 43) (nI 0) 35)) hl r sc) 3600 9)) 42) ((setA (setA A 43 (clF (A 43) (nI 0) 35)) 44 (svI (ovr (setA A 43 (clF (A 43) (nI 0) 35)) hl r sc) 3600 9)) 43) (cF F 0 3650) wa sa G2 (by omega) FS.rf (fun j hj => if_pos hj) (by rw [hse]; exact hN1))
      obtain ⟨⟨⟨A9, F9⟩, ⟨w9, k9⟩, G8⟩, ⟨hq1, hq5, hq6⟩, hq2, hq3, hq4⟩ := hq
      exact ⟨((hl, A9, F9), (w9, k9), G8), ⟨hq1, LX.rf hB, ((AS.rf.st (by decide)).tr AS.kp).tr hq5, FS.tr ⟨rfl, rfl, rfl, rfl⟩ hq6⟩, hq2, hq3, hq4⟩
    · exact absurd c39 (by decide)
  | succ i ih =>
    intro k G1 hi hN
    refine x_iload_n dX12_look_33 0 rfl ?_
    refine x_aload_n dX12_look_34 1 rfl ?_
    refine x_get (v := .ref (y + 43)) dX12_look_35 fX12_142 (hN.1) rfl ?_
    refine x_alen (n := 35) dX12_look_38 (by decide) (hN.c43) ?_
    refine x_icmpN_ge (tgt := 55) dX12_look_39 (by decide) (by omega) (by omega) (fun c39 => ?_) (fun c39 => ?_)
    · exact absurd c39 (by omega)
    · refine x_aload_n dX12_look_42 1 rfl ?_
      refine x_get (v := .ref (y + 43)) dX12_look_43 fX12_142 (hN.1) rfl ?_
      refine x_iload_n dX12_look_46 0 rfl ?_
      refine x_iconst dX12_look_47 ki_0 ?_
      refine x_pc (pc' := 48) rfl ?_
      refine x_iastN (n := 35) (f := (clF (A 43) (nI 0) k)) dX12_look_48 (hN.c43) (by omega) (by decide) ?_
      have hM1 := hN.a43 (upd (clF (A 43) (nI 0) k) k (nI 0))
      refine x_iinc (v := nI (k + 1)) (ls' := [(3, .int (nI (k + 1))), (0, .ref y), (1, .int (nI n)), (2, .int w)]) dX12_look_49 0 rfl (nIs _) (by decide) rfl ?_
      refine x_goto (tgt := 33) dX12_look_52 (by decide) ?_
      have hN2 := hM1
      rw [setA_up, clF_s] at hN2
      rw [clF_s]
      exact ih (k + 1) _ (by omega) hN2
theorem Md_look_y {K : xG} {h y : Nat} {G0 G : xHp} {hl : xHl} {r : xRw} {sc : Nat × Nat × Int32} {A : Nat → Nat → Int32} {F : Nat → Int32} {wa sa : Nat → Int64} {n : Nat} {w : Int32} (hM : MW G0 G y hl r sc A F wa sa) {rs : List (List Nat)} {bk : Nat → Nat → Nat} {bn : Nat} (hO : HallOk hl) (hVs : ∀ j, j ≤ rs.length → RvR A (sc.1, sc.2.1, nI j + (-1)) (rvJ rs j)) (hr6 : rs.length ≤ 6) (hsc : sc.1 = bn) (hbk : BkR A bk bn) (hbo : BkOk hl bk bn) (hp2 : ∀ s, s < hl 0 2 → hl 2 s < 200) (h31 : F 31 = nI rs.length) (h1 : 0 < hl 0 0) (hn : n < 400) (hw : inR w 2 = true) : xCall K mX12_look 9 0 0 [.ref y, .int (nI n), .int w] h G (mdK G0 h y (some (.int (match ptF (alF hl rs (fun j => fitB hl bk bn (rvJ rs j)) n (rs.length + 1)) (hl 0 4) with | none => -2 | some t => if cntF (fun j => fitB hl bk bn (rvJ rs j)) (rs.length + 1) = 0 then -2 else if w = 0 then nI t else nI (mxF (alF hl rs (fun j => fitB hl bk bn (rvJ rs j)) n (rs.length + 1)) t 5)))) hl r sc A F) := by
  refine x_entry (by decide) (ls := [(0, .ref y), (1, .int (nI n)), (2, .int w)]) rfl (Nat.le_of_ble_eq_true rfl) ?_
  have hB := hM.hB
  obtain ⟨o2, o3, o4, o5, o6, o7, o8, o9⟩ := id hO
  refine x_aload_n dX12_look_0 0 rfl ?_
  refine x_cV (N := mX12_isHall) (d' := 0) (mc := 0) (ms := 0) (cb := 0) (sb := 0) (As := []) (st := []) dX12_look_1 mX12_isHall_v lX12_425 rfl rfl (hM.1) rfl (by decide) (Nat.le_of_ble_eq_true rfl) (Md_isHall hM) rfl (st1 := [.int (bI (decide (0 < hl 0 0)))]) rfl ?_
  refine x_ifB_eq (tgt := 29) dX12_look_4 (by decide) (fun c4 => ?_) (fun c4 => ?_)
  · exact absurd c4 (by rw [decide_eq_true h1]; decide)
  · refine x_iload_n dX12_look_7 1 rfl ?_
    refine x_i2l dX12_look_8 ?_
    refine x_lconst (v := 0) dX12_look_9 rfl ?_
    refine x_ldc2 dX12_look_10 cX12_484 ?_
    refine x_cS (N := mX12_in) (d' := 0) (mc := 0) (ms := 0) (cb := 0) (sb := 0) (As := [.long ((nI n).toInt64), .long 0, .long (399 : Int64)]) (st := []) dX12_look_13 mX12_in_s lX12_155 rfl (by decide) (Nat.le_of_ble_eq_true rfl) (Md_in) rfl (st1 := [.int (bI (decide (0 ≤ (nI n).toInt64 ∧ (nI n).toInt64 ≤ (399 : Int64))))]) rfl ?_
    refine x_ifB_eq (tgt := 29) dX12_look_16 (by decide) (fun c16 => ?_) (fun c16 => ?_)
    · exact absurd c16 (by rw [in_399, inR_nI (by omega), decide_eq_true hn]; decide)
    · refine x_pc (pc' := 19) rfl ?_
      refine x_iload_n dX12_look_19 2 rfl ?_
      refine x_i2l dX12_look_20 ?_
      refine x_lconst (v := 0) dX12_look_21 rfl ?_
      refine x_lconst (v := 1) dX12_look_22 rfl ?_
      refine x_cS (N := mX12_in) (d' := 0) (mc := 0) (ms := 0) (cb := 0) (sb := 0) (As := [.long w.toInt64, .long 0, .long 1]) (st := []) dX12_look_23 mX12_in_s lX12_155 rfl (by decide) (Nat.le_of_ble_eq_true rfl) (Md_in) rfl (st1 := [.int (bI (decide (0 ≤ w.toInt64 ∧ w.toInt64 ≤ 1)))]) rfl ?_
      refine x_ifB_ne (tgt := 31) dX12_look_26 (by decide) (fun c26 => ?_) (fun c26 => ?_)
      · refine x_iconst dX12_look_31 ki_0 ?_
        refine x_istore_n (ls' := [(3, .int (nI 0)), (0, .ref y), (1, .int (nI n)), (2, .int w)]) dX12_look_32 (by decide) rfl ?_
        exact Md_look_cl (rs := rs) (bk := bk) (bn := bn) hO hVs hr6 hsc hbk hbo hp2 hn hB h31 35 0 _ (by decide) (by rw [clF_0, setA_self rfl]; exact hM)
      · exact absurd c26 (by rw [in_01, hw]; decide)
