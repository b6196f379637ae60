theorem Rd_next_sk {K : xG} {h b tx n : Nat} {G : xHp} {tp : Nat → Nat} {k0 l0 s0 n0 : Int32} {e : Nat} {Q : xPost} (hn : n ≤ 400) (ht : G tx = some (eI 0 400 (nF tp))) (hbt : b ≠ tx) (htp : ∀ j, tp j < 256) (next : xV K mX7_next 0 0 0 h (xup G b (eO 7 [.ref tx, .int (nI n), .int (nI e), .int k0, .int l0, .int s0, .int n0, .int (nI 0)])) 38 [(0, .ref b)] [] Q) : ∀ (k q : Nat), q + k = n → runF (blB tp) k q = e → xV K mX7_next 0 0 0 h (xup G b (eO 7 [.ref tx, .int (nI n), .int (nI q), .int k0, .int l0, .int s0, .int n0, .int (nI 0)])) 0 [(0, .ref b)] [] (Q) := by
  intro k
  induction k with
  | zero =>
    intro q hq he
    have he0 : q = e := he
    subst he0
    refine x_aload_n dX7_next_0 0 rfl ?_
    refine x_get dX7_next_1 fX7_25 (xup_eq) rfl ?_
    refine x_aload_n dX7_next_4 0 rfl ?_
    refine x_get dX7_next_5 fX7_21 (xup_eq) rfl ?_
    refine x_icmpN_ge (tgt := 38) dX7_next_8 (by decide) (by omega) (by omega) (fun c8 => ?_) (fun c8 => ?_)
    · exact next
    · exact absurd c8 (by omega)
  | succ k ih =>
    intro q hq he
    have htq := htp q
    refine x_aload_n dX7_next_0 0 rfl ?_
    refine x_get dX7_next_1 fX7_25 (xup_eq) rfl ?_
    refine x_aload_n dX7_next_4 0 rfl ?_
    refine x_get dX7_next_5 fX7_21 (xup_eq) rfl ?_
    refine x_icmpN_ge (tgt := 38) dX7_next_8 (by decide) (by omega) (by omega) (fun c8 => ?_) (fun c8 => ?_)
    · exact absurd c8 (by omega)
    · refine x_aload_n dX7_next_11 0 rfl ?_
      refine x_get dX7_next_12 fX7_9 (xup_eq) rfl ?_
      refine x_aload_n dX7_next_15 0 rfl ?_
      refine x_get dX7_next_16 fX7_25 (xup_eq) rfl ?_
      refine x_pc (pc' := 19) rfl ?_
      refine x_ialdN dX7_next_19 (xup_of (Ne.symm hbt) (ht)) (by omega) (by decide) ?_
      refine x_bipush dX7_next_20 kb_32 ?_
      refine x_icmpN_ne (tgt := 38) dX7_next_22 (by decide) (by omega) (by omega) (fun c22 => ?_) (fun c22 => ?_)
      · rw [runF_f (decide_eq_false c22)] at he
        subst he
        exact next
      · refine x_aload_n dX7_next_25 0 rfl ?_
        refine x_dup dX7_next_26 rfl ?_
        refine x_get dX7_next_27 fX7_25 (xup_eq) rfl ?_
        refine x_iconst dX7_next_30 ki_1 ?_
        refine x_iaddN dX7_next_31 ?_
        refine x_put (fs' := [.ref tx, .int (nI n), .int (nI (q + 1)), .int k0, .int l0, .int s0, .int n0, .int (nI 0)]) dX7_next_32 fX7_25 (xup_eq) (Nat.le_of_ble_eq_true rfl) rfl rfl rfl ?_
        refine x_geq xup_up ?_
        refine x_goto (tgt := 0) dX7_next_35 (by decide) ?_
        exact ih (q + 1) (by omega) ((runF_t (decide_eq_true c22)).symm.trans he)
theorem Rd_next_lw {K : xG} {h b tx n : Nat} {G : xHp} {tp : Nat → Nat} {pl sg : Nat} {e : Nat} {Q : xPost} (hn : n ≤ 400) (ht : G tx = some (eI 0 400 (nF tp))) (hbt : b ≠ tx) (htp : ∀ j, tp j < 256) (next : xV K mX7_next 0 0 0 h (xup G b (eO 7 [.ref tx, .int (nI n), .int (nI e), .int (nI 1), .int (nI pl), .int (nI sg), .int (nI 0), .int (nI 0)])) 369 [(0, .ref b)] [] Q) : ∀ (k q : Nat), q + k = n → runF (isLw tp) k q = e → xV K mX7_next 0 0 0 h (xup G b (eO 7 [.ref tx, .int (nI n), .int (nI q), .int (nI 1), .int (nI pl), .int (nI sg), .int (nI 0), .int (nI 0)])) 121 [(0, .ref b)] [] (Q) := by
  intro k
  induction k with
  | zero =>
    intro q hq he
    have he0 : q = e := he
    subst he0
    refine x_aload_n dX7_next_121 0 rfl ?_
    refine x_get dX7_next_122 fX7_25 (xup_eq) rfl ?_
    refine x_aload_n dX7_next_125 0 rfl ?_
    refine x_get dX7_next_126 fX7_21 (xup_eq) rfl ?_
    refine x_icmpN_ge (tgt := 369) dX7_next_129 (by decide) (by omega) (by omega) (fun c129 => ?_) (fun c129 => ?_)
    · exact next
    · exact absurd c129 (by omega)
  | succ k ih =>
    intro q hq he
    have htq := htp q
    refine x_aload_n dX7_next_121 0 rfl ?_
    refine x_get dX7_next_122 fX7_25 (xup_eq) rfl ?_
    refine x_aload_n dX7_next_125 0 rfl ?_
    refine x_get dX7_next_126 fX7_21 (xup_eq) rfl ?_
    refine x_icmpN_ge (tgt := 369) dX7_next_129 (by decide) (by omega) (by omega) (fun c129 => ?_) (fun c129 => ?_)
    · exact absurd c129 (by omega)
    · refine x_aload_n dX7_next_132 0 rfl ?_
      refine x_get dX7_next_133 fX7_9 (xup_eq) rfl ?_
      refine x_aload_n dX7_next_136 0 rfl ?_
      refine x_get dX7_next_137 fX7_25 (xup_eq) rfl ?_
      refine x_pc (pc' := 140) rfl ?_
      refine x_ialdN dX7_next_140 (xup_of (Ne.symm hbt) (ht)) (by omega) (by decide) ?_
      refine x_bipush dX7_next_141 kb_97 ?_
      refine x_icmpN_lt (tgt := 369) dX7_next_143 (by decide) (by omega) (by omega) (fun c143 => ?_) (fun c143 => ?_)
      · rw [runF_f (isLw_f (Or.inl c143))] at he
        subst he
        exact next
      · refine x_aload_n dX7_next_146 0 rfl ?_
        refine x_get dX7_next_147 fX7_9 (xup_eq) rfl ?_
        refine x_aload_n dX7_next_150 0 rfl ?_
        refine x_get dX7_next_151 fX7_25 (xup_eq) rfl ?_
        refine x_ialdN dX7_next_154 (xup_of (Ne.symm hbt) (ht)) (by omega) (by decide) ?_
        refine x_bipush dX7_next_155 kb_122 ?_
        refine x_icmpN_gt (tgt := 369) dX7_next_157 (by decide) (by omega) (by omega) (fun c157 => ?_) (fun c157 => ?_)
        · rw [runF_f (isLw_f (Or.inr c157))] at he
          subst he
          exact next
        · refine x_pc (pc' := 160) rfl ?_
          refine x_aload_n dX7_next_160 0 rfl ?_
          refine x_dup dX7_next_161 rfl ?_
          refine x_get dX7_next_162 fX7_25 (xup_eq) rfl ?_
          refine x_iconst dX7_next_165 ki_1 ?_
          refine x_iaddN dX7_next_166 ?_
          refine x_put (fs' := [.ref tx, .int (nI n), .int (nI (q + 1)), .int (nI 1), .int (nI pl), .int (nI sg), .int (nI 0), .int (nI 0)]) dX7_next_167 fX7_25 (xup_eq) (Nat.le_of_ble_eq_true rfl) rfl rfl rfl ?_
          refine x_geq xup_up ?_
          refine x_goto (tgt := 121) dX7_next_170 (by decide) ?_
          exact ih (q + 1) (by omega) ((runF_t (isLw_t c143 c157)).symm.trans he)
theorem Rd_next_dg {K : xG} {h b tx n : Nat} {G : xHp} {tp : Nat → Nat} {pl sg e : Nat} {Q : xPost} (hn : n ≤ 400) (ht : G tx = some (eI 0 400 (nF tp))) (hbt : b ≠ tx) (htp : ∀ j, tp j < 256) (next : xV K mX7_next 0 0 0 h (xup G b (eO 7 [.ref tx, .int (nI n), .int (nI e), .int (nI 2), .int (nI pl), .int (nI sg), .int (nmF tp pl (e - pl)), .int (nI 0)])) 369 [(0, .ref b)] [] Q) : ∀ (j k : Nat), pl + k + j = n → runF (isDg tp) j (pl + k) = e → xV K mX7_next 0 0 0 h (xup G b (eO 7 [.ref tx, .int (nI n), .int (nI (pl + k)), .int (nI 2), .int (nI pl), .int (nI sg), .int (nmF tp pl k), .int (nI 0)])) 196 [(0, .ref b)] [] (Q) := by
  intro j
  induction j with
  | zero =>
    intro k hq he
    have he0 : pl + k = e := he
    subst he0
    rw [show pl + k - pl = k by omega] at next
    refine x_aload_n dX7_next_196 0 rfl ?_
    refine x_get dX7_next_197 fX7_25 (xup_eq) rfl ?_
    refine x_aload_n dX7_next_200 0 rfl ?_
    refine x_get dX7_next_201 fX7_21 (xup_eq) rfl ?_
    refine x_icmpN_ge (tgt := 369) dX7_next_204 (by decide) (by omega) (by omega) (fun c204 => ?_) (fun c204 => ?_)
    · exact next
    · exact absurd c204 (by omega)
  | succ j ih =>
    intro k hq he
    have htq := htp (pl + k)
    refine x_aload_n dX7_next_196 0 rfl ?_
    refine x_get dX7_next_197 fX7_25 (xup_eq) rfl ?_
    refine x_aload_n dX7_next_200 0 rfl ?_
    refine x_get dX7_next_201 fX7_21 (xup_eq) rfl ?_
    refine x_icmpN_ge (tgt := 369) dX7_next_204 (by decide) (by omega) (by omega) (fun c204 => ?_) (fun c204 => ?_)
    · exact absurd c204 (by omega)
    · refine x_aload_n dX7_next_207 0 rfl ?_
      refine x_get dX7_next_208 fX7_9 (xup_eq) rfl ?_
      refine x_aload_n dX7_next_211 0 rfl ?_
      refine x_get dX7_next_212 fX7_25 (xup_eq) rfl ?_
      refine x_pc (pc' := 215) rfl ?_
      refine x_ialdN dX7_next_215 (xup_of (Ne.symm hbt) (ht)) (by omega) (by decide) ?_
      refine x_bipush dX7_next_216 kb_48 ?_
      refine x_icmpN_lt (tgt := 369) dX7_next_218 (by decide) (by omega) (by omega) (fun c218 => ?_) (fun c218 => ?_)
      · rw [runF_f (isDg_f (Or.inl c218))] at he
        subst he
        rw [show pl + k - pl = k by omega] at next
        exact next
      · refine x_aload_n dX7_next_221 0 rfl ?_
        refine x_get dX7_next_222 fX7_9 (xup_eq) rfl ?_
        refine x_aload_n dX7_next_225 0 rfl ?_
        refine x_get dX7_next_226 fX7_25 (xup_eq) rfl ?_
        refine x_ialdN dX7_next_229 (xup_of (Ne.symm hbt) (ht)) (by omega) (by decide) ?_
        refine x_bipush dX7_next_230 kb_57 ?_
        refine x_icmpN_gt (tgt := 369) dX7_next_232 (by decide) (by omega) (by omega) (fun c232 => ?_) (fun c232 => ?_)
        · rw [runF_f (isDg_f (Or.inr c232))] at he
          subst he
          rw [show pl + k - pl = k by omega] at next
          exact next
        · refine x_pc (pc' := 235) rfl ?_
          refine x_aload_n dX7_next_235 0 rfl ?_
          refine x_aload_n dX7_next_236 0 rfl ?_
          refine x_get dX7_next_237 fX7_25 (xup_eq) rfl ?_
          refine x_aload_n dX7_next_240 0 rfl ?_
          refine x_get dX7_next_241 fX7_34 (xup_eq) rfl ?_
          refine x_isubN dX7_next_244 (by omega) ?_
          refine x_iconst dX7_next_245 ki_5 ?_
          refine x_icmpN_ge (tgt := 272) dX7_next_246 (by decide) (by omega) (by omega) (fun c246 => ?_) (fun c246 => ?_)
          · refine x_iconst dX7_next_272 ki_m1 ?_
            refine x_put (fs' := [.ref tx, .int (nI n), .int (nI (pl + k)), .int (nI 2), .int (nI pl), .int (nI sg), .int (-1), .int (nI 0)]) dX7_next_273 fX7_40 (xup_eq) (Nat.le_of_ble_eq_true rfl) rfl rfl rfl ?_
            refine x_geq xup_up ?_
            refine x_pc (pc' := 276) rfl ?_
            refine x_aload_n dX7_next_276 0 rfl ?_
            refine x_dup dX7_next_277 rfl ?_
            refine x_get dX7_next_278 fX7_25 (xup_eq) rfl ?_
            refine x_iconst dX7_next_281 ki_1 ?_
            refine x_iaddN dX7_next_282 ?_
            refine x_put (fs' := [.ref tx, .int (nI n), .int (nI ((pl + k) + 1)), .int (nI 2), .int (nI pl), .int (nI sg), .int (-1), .int (nI 0)]) dX7_next_283 fX7_25 (xup_eq) (Nat.le_of_ble_eq_true rfl) rfl rfl rfl ?_
            refine x_geq xup_up ?_
            refine x_goto (tgt := 196) dX7_next_286 (by decide) ?_
            refine x_geq (congrArg (fun v => xup G b (eO 7 [.ref tx, .int (nI n), .int (nI (pl + (k + 1))), .int (nI 2), .int (nI pl), .int (nI sg), .int v, .int (nI 0)])) (show _ = nmF tp pl (k + 1) from (if_neg (by omega) : nmF tp pl (k + 1) = _).symm)) ?_
            exact ih (k + 1) (by omega) ((runF_t (isDg_t c218 c232)).symm.trans he)
          · refine x_aload_n dX7_next_249 0 rfl ?_
            refine x_get dX7_next_250 fX7_40 (xup_eq) rfl ?_
            refine x_pc (pc' := 253) rfl ?_
            refine x_bipush dX7_next_253 kb_10 ?_
            refine x_imul dX7_next_255 ?_
            refine x_aload_n dX7_next_256 0 rfl ?_
            refine x_get dX7_next_257 fX7_9 (xup_eq) rfl ?_
            refine x_aload_n dX7_next_260 0 rfl ?_
            refine x_get dX7_next_261 fX7_25 (xup_eq) rfl ?_
            refine x_ialdN dX7_next_264 (xup_of (Ne.symm hbt) (ht)) (by omega) (by decide) ?_
            refine x_iadd dX7_next_265 ?_
            refine x_bipush dX7_next_266 kb_48 ?_
            refine x_isub dX7_next_268 ?_
            refine x_pc (pc' := 269) rfl ?_
            refine x_goto (tgt := 273) dX7_next_269 (by decide) ?_
            refine x_put (fs' := [.ref tx, .int (nI n), .int (nI (pl + k)), .int (nI 2), .int (nI pl), .int (nI sg), .int ((((nmF tp pl k) * (nI 10)) + (nI (tp (pl + k)))) - (nI 48)), .int (nI 0)]) dX7_next_273 fX7_40 (xup_eq) (Nat.le_of_ble_eq_true rfl) rfl rfl rfl ?_
            refine x_geq xup_up ?_
            refine x_aload_n dX7_next_276 0 rfl ?_
            refine x_dup dX7_next_277 rfl ?_
            refine x_get dX7_next_278 fX7_25 (xup_eq) rfl ?_
            refine x_iconst dX7_next_281 ki_1 ?_
            refine x_iaddN dX7_next_282 ?_
            refine x_put (fs' := [.ref tx, .int (nI n), .int (nI ((pl + k) + 1)), .int (nI 2), .int (nI pl), .int (nI sg), .int ((((nmF tp pl k) * (nI 10)) + (nI (tp (pl + k)))) - (nI 48)), .int (nI 0)]) dX7_next_283 fX7_25 (xup_eq) (Nat.le_of_ble_eq_true rfl) rfl rfl rfl ?_
            refine x_geq xup_up ?_
            refine x_goto (tgt := 196) dX7_next_286 (by decide) ?_
            refine x_geq (congrArg (fun v => xup G b (eO 7 [.ref tx, .int (nI n), .int (nI (pl + (k + 1))), .int (nI 2), .int (nI pl), .int (nI sg), .int v, .int (nI 0)])) (show _ = nmF tp pl (k + 1) from (if_pos (by omega) : nmF tp pl (k + 1) = _).symm)) ?_
            exact ih (k + 1) (by omega) ((runF_t (isDg_t c218 c232)).symm.trans he)
theorem Rd_next_sg {K : xG} {h b tx n : Nat} {G : xHp} {tp : Nat → Nat} {pl : Nat} {k0 : Int32} (hn : n ≤ 400) (ht : G tx = some (eI 0 400 (nF tp))) (hbt : b ≠ tx) (htp : ∀ j, tp j < 256) (hp : pl < n) (hlw : isLw tp pl = false) (hdg : isDg tp pl = false) : xV K mX7_next 0 0 0 h (xup G b (eO 7 [.ref tx, .int (nI n), .int (nI pl), .int k0, .int (nI pl), .int (nI (tp pl)), .int (nI 0), .int (nI 0)])) 289 [(0, .ref b)] [] (xRet none h (xup G b (rdT tp tx n pl))) := by
  have htq := htp pl
  have htr := htp (pl + 1)
  have hkd := kd_s hp hlw hdg
  refine x_aload_n dX7_next_289 0 rfl ?_
  refine x_iconst dX7_next_290 ki_3 ?_
  refine x_put (fs' := [.ref tx, .int (nI n), .int (nI pl), .int (nI 3), .int (nI pl), .int (nI (tp pl)), .int (nI 0), .int (nI 0)]) dX7_next_291 fX7_43 (xup_eq) (Nat.le_of_ble_eq_true rfl) rfl rfl rfl ?_
  refine x_geq xup_up ?_
  refine x_aload_n dX7_next_294 0 rfl ?_
  refine x_dup dX7_next_295 rfl ?_
  refine x_get dX7_next_296 fX7_25 (xup_eq) rfl ?_
  refine x_iconst dX7_next_299 ki_1 ?_
  refine x_iaddN dX7_next_300 ?_
  refine x_put (fs' := [.ref tx, .int (nI n), .int (nI (pl + 1)), .int (nI 3), .int (nI pl), .int (nI (tp pl)), .int (nI 0), .int (nI 0)]) dX7_next_301 fX7_25 (xup_eq) (Nat.le_of_ble_eq_true rfl) rfl rfl rfl ?_
  refine x_geq xup_up ?_
  refine x_pc (pc' := 304) rfl ?_
  refine x_aload_n dX7_next_304 0 rfl ?_
  refine x_get dX7_next_305 fX7_37 (xup_eq) rfl ?_
  refine x_bipush dX7_next_308 kb_60 ?_
  refine x_icmpN_eq (tgt := 322) dX7_next_310 (by decide) (by omega) (by omega) (fun c310 => ?_) (fun c310 => ?_)
  · refine x_aload_n dX7_next_322 0 rfl ?_
    refine x_get dX7_next_323 fX7_25 (xup_eq) rfl ?_
    refine x_aload_n dX7_next_326 0 rfl ?_
    refine x_get dX7_next_327 fX7_21 (xup_eq) rfl ?_
    refine x_icmpN_ge (tgt := 369) dX7_next_330 (by decide) (by omega) (by omega) (fun c330 => ?_) (fun c330 => ?_)
    · exact x_vret dX7_next_369 rfl (xRet_e rfl (by have ht2 : ¬ twA tp n pl = true := fun w => absurd (of_decide_eq_true w) (fun q => absurd q.2.1 (by omega)); unfold rdT; rw [at_s hp hlw hdg, sg_s hp hkd, if_neg ht2, if_neg ht2, hkd, nm_n (by rw [hkd]; decide)]))
    · refine x_aload_n dX7_next_333 0 rfl ?_
      refine x_pc (pc' := 334) rfl ?_
      refine x_get dX7_next_334 fX7_9 (xup_eq) rfl ?_
      refine x_aload_n dX7_next_337 0 rfl ?_
      refine x_get dX7_next_338 fX7_25 (xup_eq) rfl ?_
      refine x_ialdN dX7_next_341 (xup_of (Ne.symm hbt) (ht)) (by omega) (by decide) ?_
      refine x_bipush dX7_next_342 kb_61 ?_
      refine x_icmpN_ne (tgt := 369) dX7_next_344 (by decide) (by omega) (by omega) (fun c344 => ?_) (fun c344 => ?_)
      · exact x_vret dX7_next_369 rfl (xRet_e rfl (by have ht2 : ¬ twA tp n pl = true := fun w => absurd (of_decide_eq_true w) (fun q => c344 q.2.2); unfold rdT; rw [at_s hp hlw hdg, sg_s hp hkd, if_neg ht2, if_neg ht2, hkd, nm_n (by rw [hkd]; decide)]))
      · refine x_aload_n dX7_next_347 0 rfl ?_
        refine x_dup dX7_next_348 rfl ?_
        refine x_get dX7_next_349 fX7_37 (xup_eq) rfl ?_
        refine x_sipush dX7_next_352 ks_256 ?_
        refine x_pc (pc' := 355) rfl ?_
        refine x_iaddN dX7_next_355 ?_
        refine x_put (fs' := [.ref tx, .int (nI n), .int (nI (pl + 1)), .int (nI 3), .int (nI pl), .int (nI ((tp pl) + 256)), .int (nI 0), .int (nI 0)]) dX7_next_356 fX7_37 (xup_eq) (Nat.le_of_ble_eq_true rfl) rfl rfl rfl ?_
        refine x_geq xup_up ?_
        refine x_aload_n dX7_next_359 0 rfl ?_
        refine x_dup dX7_next_360 rfl ?_
        refine x_get dX7_next_361 fX7_25 (xup_eq) rfl ?_
        refine x_iconst dX7_next_364 ki_1 ?_
        refine x_iaddN dX7_next_365 ?_
        refine x_put (fs' := [.ref tx, .int (nI n), .int (nI ((pl + 1) + 1)), .int (nI 3), .int (nI pl), .int (nI ((tp pl) + 256)), .int (nI 0), .int (nI 0)]) dX7_next_366 fX7_25 (xup_eq) (Nat.le_of_ble_eq_true rfl) rfl rfl rfl ?_
        refine x_geq xup_up ?_
        exact x_vret dX7_next_369 rfl (xRet_e rfl (by have ht2 : twA tp n pl = true := decide_eq_true ⟨Or.inl c310, by omega, c344⟩; unfold rdT; rw [at_s hp hlw hdg, sg_s hp hkd, if_pos ht2, if_pos ht2, hkd, nm_n (by rw [hkd]; decide)]))
  · refine x_aload_n dX7_next_313 0 rfl ?_
    refine x_get dX7_next_314 fX7_37 (xup_eq) rfl ?_
    refine x_bipush dX7_next_317 kb_62 ?_
    refine x_icmpN_ne (tgt := 369) dX7_next_319 (by decide) (by omega) (by omega) (fun c319 => ?_) (fun c319 => ?_)
    · exact x_vret dX7_next_369 rfl (xRet_e rfl (by have ht2 : ¬ twA tp n pl = true := fun w => absurd (of_decide_eq_true w) (fun q => q.1.elim c310 c319); unfold rdT; rw [at_s hp hlw hdg, sg_s hp hkd, if_neg ht2, if_neg ht2, hkd, nm_n (by rw [hkd]; decide)]))
    · refine x_aload_n dX7_next_322 0 rfl ?_
      refine x_get dX7_next_323 fX7_25 (xup_eq) rfl ?_
      refine x_pc (pc' := 326) rfl ?_
      refine x_aload_n dX7_next_326 0 rfl ?_
      refine x_get dX7_next_327 fX7_21 (xup_eq) rfl ?_
      refine x_icmpN_ge (tgt := 369) dX7_next_330 (by decide) (by omega) (by omega) (fun c330 => ?_) (fun c330 => ?_)
      · exact x_vret dX7_next_369 rfl (xRet_e rfl (by have ht2 : ¬ twA tp n pl = true := fun w => absurd (of_decide_eq_true w) (fun q => absurd q.2.1 (by omega)); unfold rdT; rw [at_s hp hlw hdg, sg_s hp hkd, if_neg ht2, if_neg ht2, hkd, nm_n (by rw [hkd]; decide)]))
      · refine x_aload_n dX7_next_333 0 rfl ?_
        refine x_get dX7_next_334 fX7_9 (xup_eq) rfl ?_
        refine x_aload_n dX7_next_337 0 rfl ?_
        refine x_get dX7_next_338 fX7_25 (xup_eq) rfl ?_
        refine x_ialdN dX7_next_341 (xup_of (Ne.symm hbt) (ht)) (by omega) (by decide) ?_
        refine x_bipush dX7_next_342 kb_61 ?_
        refine x_icmpN_ne (tgt := 369) dX7_next_344 (by decide) (by omega) (by omega) (fun c344 => ?_) (fun c344 => ?_)
        · refine x_pc (pc' := 369) rfl ?_
          exact x_vret dX7_next_369 rfl (xRet_e rfl (by have ht2 : ¬ twA tp n pl = true := fun w => absurd (of_decide_eq_true w) (fun q => c344 q.2.2); unfold rdT; rw [at_s hp hlw hdg, sg_s hp hkd, if_neg ht2, if_neg ht2, hkd, nm_n (by rw [hkd]; decide)]))
        · refine x_pc (pc' := 347) rfl ?_
          refine x_aload_n dX7_next_347 0 rfl ?_
          refine x_dup dX7_next_348 rfl ?_
          refine x_get dX7_next_349 fX7_37 (xup_eq) rfl ?_
          refine x_sipush dX7_next_352 ks_256 ?_
          refine x_iaddN dX7_next_355 ?_
          refine x_put (fs' := [.ref tx, .int (nI n), .int (nI (pl + 1)), .int (nI 3), .int (nI pl), .int (nI ((tp pl) + 256)), .int (nI 0), .int (nI 0)]) dX7_next_356 fX7_37 (xup_eq) (Nat.le_of_ble_eq_true rfl) rfl rfl rfl ?_
          refine x_geq xup_up ?_
          refine x_aload_n dX7_next_359 0 rfl ?_
          refine x_dup dX7_next_360 rfl ?_
          refine x_get dX7_next_361 fX7_25 (xup_eq) rfl ?_
          refine x_iconst dX7_next_364 ki_1 ?_
          refine x_pc (pc' := 365) rfl ?_
          refine x_iaddN dX7_next_365 ?_
          refine x_put (fs' := [.ref tx, .int (nI n), .int (nI ((pl + 1) + 1)), .int (nI 3), .int (nI pl), .int (nI ((tp pl) + 256)), .int (nI 0), .int (nI 0)]) dX7_next_366 fX7_25 (xup_eq) (Nat.le_of_ble_eq_true rfl) rfl rfl rfl ?_
          refine x_geq xup_up ?_
          exact x_vret dX7_next_369 rfl (xRet_e rfl (by have ht2 : twA tp n pl = true := decide_eq_true ⟨Or.inr c319, by omega, c344⟩; unfold rdT; rw [at_s hp hlw hdg, sg_s hp hkd, if_pos ht2, if_pos ht2, hkd, nm_n (by rw [hkd]; decide)]))
theorem Rd_next_at {K : xG} {h b tx n : Nat} {G : xHp} {tp : Nat → Nat} {pl : Nat} {k0 l0 s0 n0 : Int32} (hn : n ≤ 400) (ht : G tx = some (eI 0 400 (nF tp))) (hbt : b ≠ tx) (htp : ∀ j, tp j < 256) (hp : pl ≤ n) : xV K mX7_next 0 0 0 h (xup G b (eO 7 [.ref tx, .int (nI n), .int (nI pl), .int k0, .int l0, .int s0, .int n0, .int (nI 0)])) 38 [(0, .ref b)] [] (xRet none h (xup G b (rdT tp tx n pl))) := by
  have htq := htp pl
  refine x_aload_n dX7_next_38 0 rfl ?_
  refine x_aload_n dX7_next_39 0 rfl ?_
  refine x_get dX7_next_40 fX7_25 (xup_eq) rfl ?_
  refine x_put (fs' := [.ref tx, .int (nI n), .int (nI pl), .int k0, .int (nI pl), .int s0, .int n0, .int (nI 0)]) dX7_next_43 fX7_34 (xup_eq) (Nat.le_of_ble_eq_true rfl) rfl rfl rfl ?_
  refine x_geq xup_up ?_
  refine x_aload_n dX7_next_46 0 rfl ?_
  refine x_aload_n dX7_next_47 0 rfl ?_
  refine x_get dX7_next_48 fX7_25 (xup_eq) rfl ?_
  refine x_aload_n dX7_next_51 0 rfl ?_
  refine x_get dX7_next_52 fX7_21 (xup_eq) rfl ?_
  refine x_pc (pc' := 55) rfl ?_
  refine x_icmpN_ge (tgt := 70) dX7_next_55 (by decide) (by omega) (by omega) (fun c55 => ?_) (fun c55 => ?_)
  · refine x_iconst dX7_next_70 ki_0 ?_
    refine x_put (fs' := [.ref tx, .int (nI n), .int (nI pl), .int k0, .int (nI pl), .int (nI 0), .int n0, .int (nI 0)]) dX7_next_71 fX7_37 (xup_eq) (Nat.le_of_ble_eq_true rfl) rfl rfl rfl ?_
    refine x_geq xup_up ?_
    refine x_aload_n dX7_next_74 0 rfl ?_
    refine x_iconst dX7_next_75 ki_0 ?_
    refine x_put (fs' := [.ref tx, .int (nI n), .int (nI pl), .int k0, .int (nI pl), .int (nI 0), .int (nI 0), .int (nI 0)]) dX7_next_76 fX7_40 (xup_eq) (Nat.le_of_ble_eq_true rfl) rfl rfl rfl ?_
    refine x_geq xup_up ?_
    refine x_aload_n dX7_next_79 0 rfl ?_
    refine x_get dX7_next_80 fX7_25 (xup_eq) rfl ?_
    refine x_aload_n dX7_next_83 0 rfl ?_
    refine x_get dX7_next_84 fX7_21 (xup_eq) rfl ?_
    refine x_pc (pc' := 87) rfl ?_
    refine x_icmpN_lt (tgt := 98) dX7_next_87 (by decide) (by omega) (by omega) (fun c87 => ?_) (fun c87 => ?_)
    · exact absurd c87 (by omega)
    · refine x_aload_n dX7_next_90 0 rfl ?_
      refine x_iconst dX7_next_91 ki_0 ?_
      refine x_put (fs' := [.ref tx, .int (nI n), .int (nI pl), .int (nI 0), .int (nI pl), .int (nI 0), .int (nI 0), .int (nI 0)]) dX7_next_92 fX7_43 (xup_eq) (Nat.le_of_ble_eq_true rfl) rfl rfl rfl ?_
      refine x_geq xup_up ?_
      refine x_goto (tgt := 369) dX7_next_95 (by decide) ?_
      exact x_vret dX7_next_369 rfl (xRet_e rfl (by unfold rdT; rw [at_end c55, kd_end c55, sg_end c55, nm_n (by rw [kd_end c55]; decide)]))
  · refine x_aload_n dX7_next_58 0 rfl ?_
    refine x_get dX7_next_59 fX7_9 (xup_eq) rfl ?_
    refine x_aload_n dX7_next_62 0 rfl ?_
    refine x_get dX7_next_63 fX7_25 (xup_eq) rfl ?_
    refine x_ialdN dX7_next_66 (xup_of (Ne.symm hbt) (ht)) (by omega) (by decide) ?_
    refine x_goto (tgt := 71) dX7_next_67 (by decide) ?_
    refine x_put (fs' := [.ref tx, .int (nI n), .int (nI pl), .int k0, .int (nI pl), .int (nI (tp pl)), .int n0, .int (nI 0)]) dX7_next_71 fX7_37 (xup_eq) (Nat.le_of_ble_eq_true rfl) rfl rfl rfl ?_
    refine x_geq xup_up ?_
    refine x_aload_n dX7_next_74 0 rfl ?_
    refine x_iconst dX7_next_75 ki_0 ?_
    refine x_pc (pc' := 76) rfl ?_
    refine x_put (fs' := [.ref tx, .int (nI n), .int (nI pl), .int k0, .int (nI pl), .int (nI (tp pl)), .int (nI 0), .int (nI 0)]) dX7_next_76 fX7_40 (xup_eq) (Nat.le_of_ble_eq_true rfl) rfl rfl rfl ?_
    refine x_geq xup_up ?_
    refine x_aload_n dX7_next_79 0 rfl ?_
    refine x_get dX7_next_80 fX7_25 (xup_eq) rfl ?_
    refine x_aload_n dX7_next_83 0 rfl ?_
    refine x_get dX7_next_84 fX7_21 (xup_eq) rfl ?_
    refine x_icmpN_lt (tgt := 98) dX7_next_87 (by decide) (by omega) (by omega) (fun c87 => ?_) (fun c87 => ?_)
    · refine x_aload_n dX7_next_98 0 rfl ?_
      refine x_get dX7_next_99 fX7_37 (xup_eq) rfl ?_
      refine x_bipush dX7_next_102 kb_97 ?_
      refine x_icmpN_lt (tgt := 173) dX7_next_104 (by decide) (by omega) (by omega) (fun c104 => ?_) (fun c104 => ?_)
      · refine x_pc (pc' := 173) rfl ?_
        refine x_aload_n dX7_next_173 0 rfl ?_
        refine x_get dX7_next_174 fX7_37 (xup_eq) rfl ?_
        refine x_bipush dX7_next_177 kb_48 ?_
        refine x_icmpN_lt (tgt := 289) dX7_next_179 (by decide) (by omega) (by omega) (fun c179 => ?_) (fun c179 => ?_)
        · have hlw : isLw tp pl = false := isLw_f (Or.inl c104)
          have hdg : isDg tp pl = false := isDg_f (Or.inl c179)
          exact Rd_next_sg hn ht hbt htp (by omega) hlw hdg
        · refine x_aload_n dX7_next_182 0 rfl ?_
          refine x_get dX7_next_183 fX7_37 (xup_eq) rfl ?_
          refine x_bipush dX7_next_186 kb_57 ?_
          refine x_icmpN_gt (tgt := 289) dX7_next_188 (by decide) (by omega) (by omega) (fun c188 => ?_) (fun c188 => ?_)
          · have hlw : isLw tp pl = false := isLw_f (Or.inl c104)
            have hdg : isDg tp pl = false := isDg_f (Or.inr c188)
            exact Rd_next_sg hn ht hbt htp (by omega) hlw hdg
          · refine x_aload_n dX7_next_191 0 rfl ?_
            refine x_iconst dX7_next_192 ki_2 ?_
            refine x_pc (pc' := 193) rfl ?_
            refine x_put (fs' := [.ref tx, .int (nI n), .int (nI pl), .int (nI 2), .int (nI pl), .int (nI (tp pl)), .int (nI 0), .int (nI 0)]) dX7_next_193 fX7_43 (xup_eq) (Nat.le_of_ble_eq_true rfl) rfl rfl rfl ?_
            refine x_geq xup_up ?_
            have hlw : isLw tp pl = false := isLw_f (Or.inl c104)
            have hkd : kdA tp n pl = 2 := kd_d (by omega) hlw (isDg_t c179 c188)
            refine Rd_next_dg hn ht hbt htp ?_ (n - pl) 0 (by omega) rfl
            exact x_vret dX7_next_369 rfl (xRet_e rfl (by unfold rdT; rw [at_d (by omega) hlw (isDg_t c179 c188), hkd, sg_n (by omega) (by rw [hkd]; decide), nm_d hkd]; rfl))
      · refine x_pc (pc' := 107) rfl ?_
        refine x_aload_n dX7_next_107 0 rfl ?_
        refine x_get dX7_next_108 fX7_37 (xup_eq) rfl ?_
        refine x_bipush dX7_next_111 kb_122 ?_
        refine x_icmpN_gt (tgt := 173) dX7_next_113 (by decide) (by omega) (by omega) (fun c113 => ?_) (fun c113 => ?_)
        · refine x_aload_n dX7_next_173 0 rfl ?_
          refine x_get dX7_next_174 fX7_37 (xup_eq) rfl ?_
          refine x_bipush dX7_next_177 kb_48 ?_
          refine x_icmpN_lt (tgt := 289) dX7_next_179 (by decide) (by omega) (by omega) (fun c179 => ?_) (fun c179 => ?_)
          · have hlw : isLw tp pl = false := isLw_f (Or.inr c113)
            have hdg : isDg tp pl = false := isDg_f (Or.inl c179)
            exact Rd_next_sg hn ht hbt htp (by omega) hlw hdg
          · refine x_aload_n dX7_next_182 0 rfl ?_
            refine x_get dX7_next_183 fX7_37 (xup_eq) rfl ?_
            refine x_pc (pc' := 186) rfl ?_
            refine x_bipush dX7_next_186 kb_57 ?_
            refine x_icmpN_gt (tgt := 289) dX7_next_188 (by decide) (by omega) (by omega) (fun c188 => ?_) (fun c188 => ?_)
            · have hlw : isLw tp pl = false := isLw_f (Or.inr c113)
              have hdg : isDg tp pl = false := isDg_f (Or.inr c188)
              exact Rd_next_sg hn ht hbt htp (by omega) hlw hdg
            · refine x_aload_n dX7_next_191 0 rfl ?_
              refine x_iconst dX7_next_192 ki_2 ?_
              refine x_put (fs' := [.ref tx, .int (nI n), .int (nI pl), .int (nI 2), .int (nI pl), .int (nI (tp pl)), .int (nI 0), .int (nI 0)]) dX7_next_193 fX7_43 (xup_eq) (Nat.le_of_ble_eq_true rfl) rfl rfl rfl ?_
              refine x_geq xup_up ?_
              have hlw : isLw tp pl = false := isLw_f (Or.inr c113)
              have hkd : kdA tp n pl = 2 := kd_d (by omega) hlw (isDg_t c179 c188)
              refine Rd_next_dg hn ht hbt htp ?_ (n - pl) 0 (by omega) rfl
              exact x_vret dX7_next_369 rfl (xRet_e rfl (by unfold rdT; rw [at_d (by omega) hlw (isDg_t c179 c188), hkd, sg_n (by omega) (by rw [hkd]; decide), nm_d hkd]; rfl))
        · refine x_aload_n dX7_next_116 0 rfl ?_
          refine x_iconst dX7_next_117 ki_1 ?_
          refine x_put (fs' := [.ref tx, .int (nI n), .int (nI pl), .int (nI 1), .int (nI pl), .int (nI (tp pl)), .int (nI 0), .int (nI 0)]) dX7_next_118 fX7_43 (xup_eq) (Nat.le_of_ble_eq_true rfl) rfl rfl rfl ?_
          refine x_geq xup_up ?_
          refine Rd_next_lw hn ht hbt htp ?_ (n - pl) pl (by omega) rfl
          exact x_vret dX7_next_369 rfl (xRet_e rfl (by unfold rdT; rw [at_w (by omega) (isLw_t c104 c113), kd_w (by omega) (isLw_t c104 c113), sg_n (by omega) (by rw [kd_w (by omega) (isLw_t c104 c113)]; decide), nm_n (by rw [kd_w (by omega) (isLw_t c104 c113)]; decide)]))
    · exact absurd c87 (by omega)
theorem Rd_next0 {K : xG} {h b tx n : Nat} {G : xHp} {tp : Nat → Nat} {p : Nat} {k0 l0 s0 n0 : Int32} (hn : n ≤ 400) (ht : G tx = some (eI 0 400 (nF tp))) (hbt : b ≠ tx) (htp : ∀ j, tp j < 256) (hp : p ≤ n) (hc : G b = some (eO 7 [.ref tx, .int (nI n), .int (nI p), .int k0, .int l0, .int s0, .int n0, .int (nI 0)])) : xCall K mX7_next 0 0 0 [.ref b] h G (xRet none h (xup G b (rdT tp tx n (skP tp n p)))) := by
  refine x_entry (by decide) (ls := [(0, .ref b)]) rfl (Nat.le_of_ble_eq_true rfl) ?_
  refine x_geq (xup_same hc).symm ?_
  exact Rd_next_sk hn ht hbt htp (Rd_next_at hn ht hbt htp (sk_le hp).2) (n - p) p (by omega) rfl
theorem Rd_next {K : xG} {h b tx n : Nat} {G : xHp} {tp : Nat → Nat} {p : Nat} (hR : RdAt G b tx n tp 0 p) (hbt : b ≠ tx) : xCall K mX7_next 0 0 0 [.ref b] h G (rdQ G h b tx n tp none 0 (atA tp n (skP tp n p))) := by
  obtain ⟨a1, a2, a3, a4, -⟩ := id hR
  have s1 := sk_le (tp := tp) a2
  have s2 := at_le (tp := tp) s1.2
  refine x_callpost (fun v h' G' hq => ?_) (Rd_next0 a1 a3 hbt a4 s2.2.1 hR.ok)
  obtain ⟨e1, e2, e3⟩ := hq
  exact ⟨_, ⟨⟨a1, s2.2.1, xup_of (Ne.symm hbt) a3, a4, Or.inl ⟨rfl, xup_eq⟩⟩, Fr.rf.up1 (by omega) (by omega)⟩, e1, e2, e3⟩
theorem Rd_start {K : xG} {h b tx n : Nat} {G : xHp} {tp : Nat → Nat} {a1 a2 a3 a4 a5 a6 a7 : Int32} (hn : n ≤ 400) (ht : G tx = some (eI 0 400 (nF tp))) (hbt : b ≠ tx) (htp : ∀ j, tp j < 256) (hc : G b = some (eO 7 [.ref tx, .int a1, .int a2, .int a3, .int a4, .int a5, .int a6, .int a7])) : xCall K mX7_start 1 0 0 [.ref b, .int (nI n)] h G (rdQ G h b tx n tp none 0 0) := by
  refine x_entry (by decide) (ls := [(0, .ref b), (1, .int (nI n))]) rfl (Nat.le_of_ble_eq_true rfl) ?_
  refine x_aload_n dX7_start_0 0 rfl ?_
  refine x_iload_n dX7_start_1 1 rfl ?_
  refine x_aload_n dX7_start_2 0 rfl ?_
  refine x_get dX7_start_3 fX7_9 (hc) rfl ?_
  refine x_alen dX7_start_6 (by decide) (ht) ?_
  refine x_mmin dX7_start_7 lX7_15 xw_minS xw_mathI xw_minC (by decide) (Nat.le_of_ble_eq_true rfl) ?_
  refine x_topi (y := nI n) (by rw [mnI_nI (by omega) (by decide), Nat.min_eq_left hn]) ?_
  refine x_put (fs' := [.ref tx, .int (nI n), .int a2, .int a3, .int a4, .int a5, .int a6, .int a7]) dX7_start_10 fX7_21 (hc) (Nat.le_of_ble_eq_true rfl) rfl rfl rfl ?_
  refine x_aload_n dX7_start_13 0 rfl ?_
  refine x_iconst dX7_start_14 ki_0 ?_
  refine x_pc (pc' := 15) rfl ?_
  refine x_put (fs' := [.ref tx, .int (nI n), .int (nI 0), .int a3, .int a4, .int a5, .int a6, .int a7]) dX7_start_15 fX7_25 (xup_eq) (Nat.le_of_ble_eq_true rfl) rfl rfl rfl ?_
  refine x_geq xup_up ?_
  refine x_aload_n dX7_start_18 0 rfl ?_
  refine x_iconst dX7_start_19 ki_0 ?_
  refine x_put (fs' := [.ref tx, .int (nI n), .int (nI 0), .int a3, .int a4, .int a5, .int a6, .int (nI 0)]) dX7_start_20 fX7_28 (xup_eq) (Nat.le_of_ble_eq_true rfl) rfl rfl rfl ?_
  refine x_geq xup_up ?_
  refine x_aload_n dX7_start_23 0 rfl ?_
  refine x_cV (N := mX7_next) (d' := 0) (mc := 0) (ms := 0) (cb := 0) (sb := 0) (As := []) (st := []) dX7_start_24 mX7_next_v lX7_31 rfl rfl (xup_eq) rfl (by decide) (Nat.le_of_ble_eq_true rfl) (Rd_next0 (p := 0) hn (xup_of (Ne.symm hbt) ht) hbt htp (by omega) xup_eq) rfl (st1 := []) rfl ?_
  exact x_vret dX7_start_27 rfl (xEx_i _ ⟨⟨hn, by omega, xup_of (Ne.symm hbt) (xup_of (Ne.symm hbt) ht), htp, Or.inl ⟨rfl, xup_eq⟩⟩, (Fr.rf.up1 (by omega) (by omega)).up1 (by omega) (by omega)⟩ rfl rfl rfl)
