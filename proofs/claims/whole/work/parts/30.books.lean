theorem Books_init {K : xG} {b : Nat} {G : xHp} (hb : G b = some (eO 1 [.null, .null, .null, .int 0, .int 0, .int 0, .null])) : xCall K mX1_init 1 4 65 [.ref b] (b + 1) G (xEx (fun G' => BooksAt G' b (fun _ _ => 0) 0 0 0 (fun _ => 0) ∧ Fr G G' b 5) (fun _ => none) (fun _ => b + 5) (fun G' => G')) := by
  refine x_entry (by decide) (ls := [(0, .ref b)]) rfl (Nat.le_of_ble_eq_true rfl) ?_
  refine x_aload_n dX1_init_0 0 rfl ?_
  refine x_objInit dX1_init_1 lX1_3 xw_objI xw_objC (by decide) (Nat.le_of_ble_eq_true rfl) ?_
  refine x_aload_n dX1_init_4 0 rfl ?_
  refine x_bipush dX1_init_5 kb_10 ?_
  refine x_newa (cb := 3) (sb := 55) (t := 0) (N0 := 10) dX1_init_7 rfl xac_int (fun _ => rfl) (fun _ _ => rfl) rfl (by decide) (by decide) (by decide) ?_
  refine x_hh (h' := b + 2) rfl ?_
  refine x_putF (fs' := [.ref (b + 1), .null, .null, .int 0, .int 0, .int 0, .null]) dX1_init_9 fX1_11 rfl rfl (xup_of (by omega) (hb)) (Nat.le_of_ble_eq_true rfl) rfl rfl rfl ?_
  refine x_aload_n dX1_init_12 0 rfl ?_
  refine x_bipush dX1_init_13 kb_10 ?_
  refine x_newa (cb := 2) (sb := 45) (t := 0) (N0 := 10) dX1_init_15 rfl xac_int (fun _ => rfl) (fun _ _ => rfl) rfl (by decide) (by decide) (by decide) ?_
  refine x_hh (h' := b + 3) rfl ?_
  refine x_pc (pc' := 17) rfl ?_
  refine x_putF (fs' := [.ref (b + 1), .ref (b + 2), .null, .int 0, .int 0, .int 0, .null]) dX1_init_17 fX1_15 rfl rfl (xup_of (by omega) (xup_eq)) (Nat.le_of_ble_eq_true rfl) rfl rfl rfl ?_
  refine x_geq (xup_dig (by omega)) ?_
  refine x_aload_n dX1_init_20 0 rfl ?_
  refine x_bipush dX1_init_21 kb_10 ?_
  refine x_newa (cb := 1) (sb := 35) (t := 0) (N0 := 10) dX1_init_23 rfl xac_int (fun _ => rfl) (fun _ _ => rfl) rfl (by decide) (by decide) (by decide) ?_
  refine x_hh (h' := b + 4) rfl ?_
  refine x_putF (fs' := [.ref (b + 1), .ref (b + 2), .ref (b + 3), .int 0, .int 0, .int 0, .null]) dX1_init_25 fX1_18 rfl rfl (xup_of (by omega) (xup_of (by omega) (xup_eq))) (Nat.le_of_ble_eq_true rfl) rfl rfl rfl ?_
  refine x_geq (xup_dig2 (by omega) (by omega)) ?_
  refine x_aload_n dX1_init_28 0 rfl ?_
  refine x_bipush dX1_init_29 kb_35 ?_
  refine x_newa (cb := 0) (sb := 0) (t := 0) (N0 := 35) dX1_init_31 rfl xac_int (fun _ => rfl) (fun _ _ => rfl) rfl (by decide) (by decide) (by decide) ?_
  refine x_hh (h' := b + 5) rfl ?_
  refine x_putF (fs' := [.ref (b + 1), .ref (b + 2), .ref (b + 3), .int 0, .int 0, .int 0, .ref (b + 4)]) dX1_init_33 fX1_21 rfl rfl (xup_of (by omega) (xup_of (by omega) (xup_of (by omega) (xup_eq)))) (Nat.le_of_ble_eq_true rfl) rfl rfl rfl ?_
  refine x_geq (xup_dig3 (by omega) (by omega) (by omega)) ?_
  exact x_vret dX1_init_36 rfl (xEx_i _ ⟨⟨xup_of (by omega) (xup_of (by omega) (xup_of (by omega) (xup_eq))), xup_of (by omega) (xup_of (by omega) (xup_of (by omega) (xup_of (by omega) (xup_eq)))), xup_of (by omega) (xup_of (by omega) (xup_eq)), xup_of (by omega) (xup_eq), xup_eq⟩, (((((Fr.rf).up1 (by omega) (by omega)).up1 (by omega) (by omega)).up1 (by omega) (by omega)).up1 (by omega) (by omega)).up1 (by omega) (by omega)⟩ rfl rfl rfl)
theorem Books_write {K : xG} {h b n t w : Nat} {G : xHp} {bk : Nat → Nat → Nat} {bn fi : Nat} {fs : Int32} {al : Nat → Nat} (hB : BooksAt G b bk bn fi fs al) (hn : bn < 10) : xCall K mX1_write 0 0 0 [.ref b, .int (nI n), .int (nI t), .int (nI w)] h G (xEx (fun G' => BooksAt G' b (fun i j => if j = bn then (if i = 0 then n else if i = 1 then t else w) else bk i j) (bn + 1) fi fs al ∧ Fr G G' b 5) (fun _ => none) (fun _ => h) (fun G' => G')) := by
  refine x_entry (by decide) (ls := [(0, .ref b), (1, .int (nI n)), (2, .int (nI t)), (3, .int (nI w))]) rfl (Nat.le_of_ble_eq_true rfl) ?_
  refine x_aload_n dX1_write_0 0 rfl ?_
  refine x_get dX1_write_1 fX1_24 (hB.1) rfl ?_
  refine x_bipush dX1_write_4 kb_10 ?_
  refine x_icmpN_ge (tgt := 49) dX1_write_6 (by decide) (by omega) (by omega) (fun c6 => ?_) (fun c6 => ?_)
  · exact absurd c6 (by omega)
  · refine x_aload_n dX1_write_9 0 rfl ?_
    refine x_get dX1_write_10 fX1_11 (hB.1) rfl ?_
    refine x_aload_n dX1_write_13 0 rfl ?_
    refine x_get dX1_write_14 fX1_24 (hB.1) rfl ?_
    refine x_iload_n dX1_write_17 1 rfl ?_
    refine x_pc (pc' := 18) rfl ?_
    refine x_iastN dX1_write_18 (hB.2.1) (by omega) (by decide) ?_
    refine x_aload_n dX1_write_19 0 rfl ?_
    refine x_get dX1_write_20 fX1_15 (xup_of (by omega) (hB.1)) rfl ?_
    refine x_aload_n dX1_write_23 0 rfl ?_
    refine x_get dX1_write_24 fX1_24 (xup_of (by omega) (hB.1)) rfl ?_
    refine x_iload_n dX1_write_27 2 rfl ?_
    refine x_iastN dX1_write_28 (xup_of (by omega) (hB.2.2.1)) (by omega) (by decide) ?_
    refine x_aload_n dX1_write_29 0 rfl ?_
    refine x_get dX1_write_30 fX1_18 (xup_of (by omega) (xup_of (by omega) (hB.1))) rfl ?_
    refine x_aload_n dX1_write_33 0 rfl ?_
    refine x_pc (pc' := 34) rfl ?_
    refine x_get dX1_write_34 fX1_24 (xup_of (by omega) (xup_of (by omega) (hB.1))) rfl ?_
    refine x_iload_n dX1_write_37 3 rfl ?_
    refine x_iastN dX1_write_38 (xup_of (by omega) (xup_of (by omega) (hB.2.2.2.1))) (by omega) (by decide) ?_
    refine x_aload_n dX1_write_39 0 rfl ?_
    refine x_dup dX1_write_40 rfl ?_
    refine x_get dX1_write_41 fX1_24 (xup_of (by omega) (xup_of (by omega) (xup_of (by omega) (hB.1)))) rfl ?_
    refine x_iconst dX1_write_44 ki_1 ?_
    refine x_iaddN dX1_write_45 ?_
    refine x_put (fs' := [.ref (b + 1), .ref (b + 2), .ref (b + 3), .int (nI (bn + 1)), .int (nI fi), .int fs, .ref (b + 4)]) dX1_write_46 fX1_24 (xup_of (by omega) (xup_of (by omega) (xup_of (by omega) (hB.1)))) (Nat.le_of_ble_eq_true rfl) rfl rfl rfl ?_
    exact x_vret dX1_write_49 rfl (xEx_i _ ⟨⟨xup_eq, (xup_of (by omega) (xup_of (by omega) (xup_of (by omega) (xup_eq)))).trans (by rw [upd_nF]; rfl), (xup_of (by omega) (xup_of (by omega) (xup_eq))).trans (by rw [upd_nF]; rfl), (xup_of (by omega) (xup_eq)).trans (by rw [upd_nF]; rfl), xup_of (by omega) (xup_of (by omega) (xup_of (by omega) (xup_of (by omega) (hB.2.2.2.2))))⟩, ((((Fr.rf).up1 (by omega) (by omega)).up1 (by omega) (by omega)).up1 (by omega) (by omega)).up1 (by omega) (by omega)⟩ rfl rfl rfl)
theorem Books_copy {K : xG} {h b c : Nat} {G : xHp} {bk : Nat → Nat → Nat} {bn fi : Nat} {fs : Int32} {al : Nat → Nat} {bk2 : Nat → Nat → Nat} {bn2 fi2 : Nat} {fs2 : Int32} {al2 : Nat → Nat} (hB : BooksAt G b bk bn fi fs al) (hC : BooksAt G c bk2 bn2 fi2 fs2 al2) (hne : c + 5 ≤ b ∨ b + 5 ≤ c) : xCall K mX1_copy 1 0 0 [.ref b, .ref c] h G (xEx (fun G' => BooksAt G' b bk2 bn2 fi fs al ∧ Fr G G' b 5) (fun _ => none) (fun _ => h) (fun G' => G')) := by
  refine x_entry (by decide) (ls := [(0, .ref b), (1, .ref c)]) rfl (Nat.le_of_ble_eq_true rfl) ?_
  refine x_aload_n dX1_copy_0 1 rfl ?_
  refine x_get dX1_copy_1 fX1_11 (hC.1) rfl ?_
  refine x_iconst dX1_copy_4 ki_0 ?_
  refine x_aload_n dX1_copy_5 0 rfl ?_
  refine x_get dX1_copy_6 fX1_11 (hB.1) rfl ?_
  refine x_iconst dX1_copy_9 ki_0 ?_
  refine x_bipush dX1_copy_10 kb_10 ?_
  refine x_copyF dX1_copy_12 lX1_28 (hC.2.1) (hB.2.1) (by decide) xw_nat xw_nst xw_sys (by decide) (Nat.le_of_ble_eq_true rfl) ?_
  refine x_aload_n dX1_copy_15 1 rfl ?_
  refine x_pc (pc' := 16) rfl ?_
  refine x_get dX1_copy_16 fX1_15 (xup_of (by omega) (hC.1)) rfl ?_
  refine x_iconst dX1_copy_19 ki_0 ?_
  refine x_aload_n dX1_copy_20 0 rfl ?_
  refine x_get dX1_copy_21 fX1_15 (xup_of (by omega) (hB.1)) rfl ?_
  refine x_iconst dX1_copy_24 ki_0 ?_
  refine x_bipush dX1_copy_25 kb_10 ?_
  refine x_copyF dX1_copy_27 lX1_28 (xup_of (by omega) (hC.2.2.1)) (xup_of (by omega) (hB.2.2.1)) (by decide) xw_nat xw_nst xw_sys (by decide) (Nat.le_of_ble_eq_true rfl) ?_
  refine x_aload_n dX1_copy_30 1 rfl ?_
  refine x_get dX1_copy_31 fX1_18 (xup_of (by omega) (xup_of (by omega) (hC.1))) rfl ?_
  refine x_iconst dX1_copy_34 ki_0 ?_
  refine x_pc (pc' := 35) rfl ?_
  refine x_aload_n dX1_copy_35 0 rfl ?_
  refine x_get dX1_copy_36 fX1_18 (xup_of (by omega) (xup_of (by omega) (hB.1))) rfl ?_
  refine x_iconst dX1_copy_39 ki_0 ?_
  refine x_bipush dX1_copy_40 kb_10 ?_
  refine x_copyF dX1_copy_42 lX1_28 (xup_of (by omega) (xup_of (by omega) (hC.2.2.2.1))) (xup_of (by omega) (xup_of (by omega) (hB.2.2.2.1))) (by decide) xw_nat xw_nst xw_sys (by decide) (Nat.le_of_ble_eq_true rfl) ?_
  refine x_aload_n dX1_copy_45 0 rfl ?_
  refine x_aload_n dX1_copy_46 1 rfl ?_
  refine x_get dX1_copy_47 fX1_24 (xup_of (by omega) (xup_of (by omega) (xup_of (by omega) (hC.1)))) rfl ?_
  refine x_put (fs' := [.ref (b + 1), .ref (b + 2), .ref (b + 3), .int (nI bn2), .int (nI fi), .int fs, .ref (b + 4)]) dX1_copy_50 fX1_24 (xup_of (by omega) (xup_of (by omega) (xup_of (by omega) (hB.1)))) (Nat.le_of_ble_eq_true rfl) rfl rfl rfl ?_
  exact x_vret dX1_copy_53 rfl (xEx_i _ ⟨⟨xup_eq, xup_of (by omega) (xup_of (by omega) (xup_of (by omega) (xup_eq))), xup_of (by omega) (xup_of (by omega) (xup_eq)), xup_of (by omega) (xup_eq), xup_of (by omega) (xup_of (by omega) (xup_of (by omega) (xup_of (by omega) (hB.2.2.2.2))))⟩, ((((Fr.rf).up1 (by omega) (by omega)).up1 (by omega) (by omega)).up1 (by omega) (by omega)).up1 (by omega) (by omega)⟩ rfl rfl rfl)
theorem Books_mostAlike_loop {K : xG} {h b t : Nat} {G : xHp} {bk : Nat → Nat → Nat} {bn fi : Nat} {fs : Int32} {al : Nat → Nat} (hB : BooksAt G b bk bn fi fs al) (ht : t < 7) (hal : ∀ j, al j < 1000) : ∀ (k i : Nat), i + k = 5 → xV K mX1_mostAlike 1 0 0 h G 4 [(3, .int (nI i)), (2, .int (nI (mxF al t i))), (0, .ref b), (1, .int (nI t))] [] (xRet (some (.int (nI (mxF al t 5)))) h G) := by
  intro k
  induction k with
  | zero =>
    intro i hv
    have hv0 : i = 5 := by omega
    subst hv0
    refine x_iload_n dX1_mostAlike_4 0 rfl ?_
    refine x_iconst dX1_mostAlike_5 ki_5 ?_
    refine x_icmpN_ge (tgt := 30) dX1_mostAlike_6 (by decide) (by omega) (by omega) (fun c6 => ?_) (fun c6 => ?_)
    · refine x_iload_n dX1_mostAlike_30 1 rfl ?_
      exact x_iret dX1_mostAlike_31 rfl (xRet_i)
    · exact absurd c6 (by omega)
  | succ k ih =>
    intro i hv
    refine x_iload_n dX1_mostAlike_4 0 rfl ?_
    refine x_iconst dX1_mostAlike_5 ki_5 ?_
    refine x_icmpN_ge (tgt := 30) dX1_mostAlike_6 (by decide) (by omega) (by omega) (fun c6 => ?_) (fun c6 => ?_)
    · exact absurd c6 (by omega)
    · refine x_iload_n dX1_mostAlike_9 1 rfl ?_
      refine x_aload_n dX1_mostAlike_10 2 rfl ?_
      refine x_get dX1_mostAlike_11 fX1_21 (hB.1) rfl ?_
      refine x_iload_n dX1_mostAlike_14 3 rfl ?_
      refine x_iconst dX1_mostAlike_15 ki_5 ?_
      refine x_imulN dX1_mostAlike_16 ?_
      refine x_pc (pc' := 17) rfl ?_
      refine x_iload_n dX1_mostAlike_17 0 rfl ?_
      refine x_iaddN dX1_mostAlike_18 ?_
      refine x_ialdN dX1_mostAlike_19 (hB.2.2.2.2) (by omega) (by decide) ?_
      refine x_mmax dX1_mostAlike_20 lX1_60 xw_maxS xw_mathI xw_maxC (by decide) (Nat.le_of_ble_eq_true rfl) ?_
      refine x_seq (st' := [.int (nI (max (mxF al t i) (al (t * 5 + i))))]) (by rw [mxI_nI (by have := mxF_lt (t := t) hal i; omega) (by have := hal (t * 5 + i); omega)]) ?_
      refine x_istore_n (ls' := [(2, .int (nI (max (mxF al t i) (al (t * 5 + i))))), (3, .int (nI i)), (0, .ref b), (1, .int (nI t))]) dX1_mostAlike_23 (by decide) rfl ?_
      refine x_iinc (v := nI (i + 1)) (ls' := [(3, .int (nI (i + 1))), (2, .int (nI (max (mxF al t i) (al (t * 5 + i))))), (0, .ref b), (1, .int (nI t))]) dX1_mostAlike_24 1 rfl (nIs _) (by decide) rfl ?_
      refine x_goto (tgt := 4) dX1_mostAlike_27 (by decide) ?_
      exact ih (i + 1) (by omega)
theorem Books_mostAlike {K : xG} {h b t : Nat} {G : xHp} {bk : Nat → Nat → Nat} {bn fi : Nat} {fs : Int32} {al : Nat → Nat} (hB : BooksAt G b bk bn fi fs al) (ht : t < 7) (hal : ∀ j, al j < 1000) : xCall K mX1_mostAlike 1 0 0 [.ref b, .int (nI t)] h G (xRet (some (.int (nI (mxF al t 5)))) h G) := by
  refine x_entry (by decide) (ls := [(0, .ref b), (1, .int (nI t))]) rfl (Nat.le_of_ble_eq_true rfl) ?_
  refine x_iconst dX1_mostAlike_0 ki_0 ?_
  refine x_istore_n (ls' := [(2, .int (nI 0)), (0, .ref b), (1, .int (nI t))]) dX1_mostAlike_1 (by decide) rfl ?_
  refine x_iconst dX1_mostAlike_2 ki_0 ?_
  refine x_istore_n (ls' := [(3, .int (nI 0)), (2, .int (nI 0)), (0, .ref b), (1, .int (nI t))]) dX1_mostAlike_3 (by decide) rfl ?_
  exact Books_mostAlike_loop hB ht hal 5 0 (by omega)
theorem Books_parting_loop {K : xG} {h b n : Nat} {G : xHp} {bk : Nat → Nat → Nat} {bn fi : Nat} {fs : Int32} {al : Nat → Nat} (hB : BooksAt G b bk bn fi fs al) (hn : n ≤ 7) (hal : ∀ j, al j < 1000) : ∀ (k t : Nat), t + k = n → xV K mX1_partingThing 2 0 0 h G 4 [(3, .int (nI t)), (2, .int (chI (ptF al t))), (0, .ref b), (1, .int (nI n))] [] (xRet (some (.int (chI (ptF al n)))) h G) := by
  intro k
  induction k with
  | zero =>
    intro t hv
    have hv0 : t = n := by omega
    subst hv0
    refine x_iload_n dX1_partingThing_4 0 rfl ?_
    refine x_iload_n dX1_partingThing_5 3 rfl ?_
    refine x_icmpN_ge (tgt := 35) dX1_partingThing_6 (by decide) (by omega) (by omega) (fun c6 => ?_) (fun c6 => ?_)
    · refine x_iload_n dX1_partingThing_35 1 rfl ?_
      exact x_iret dX1_partingThing_36 rfl (xRet_i)
    · exact absurd c6 (by omega)
  | succ k ih =>
    intro t hv
    refine x_iload_n dX1_partingThing_4 0 rfl ?_
    refine x_iload_n dX1_partingThing_5 3 rfl ?_
    refine x_icmpN_ge (tgt := 35) dX1_partingThing_6 (by decide) (by omega) (by omega) (fun c6 => ?_) (fun c6 => ?_)
    · exact absurd c6 (by omega)
    · rcases hb : ptF al t with _ | bb
      · refine x_leq (ls' := [(3, .int (nI t)), (2, .int (-1)), (0, .ref b), (1, .int (nI n))]) rfl ?_
        refine x_iload_n dX1_partingThing_9 1 rfl ?_
        refine x_iconst dX1_partingThing_10 ki_m1 ?_
        refine x_icmp_eq (x := (-1)) (y := (-1)) (tgt := 27) dX1_partingThing_11 (by decide) (fun c11 => ?_) (fun c11 => ?_)
        · refine x_iload_n dX1_partingThing_27 0 rfl ?_
          refine x_istore_n (ls' := [(2, .int (nI t)), (3, .int (nI t)), (0, .ref b), (1, .int (nI n))]) dX1_partingThing_28 (by decide) rfl ?_
          refine x_iinc (v := nI (t + 1)) (ls' := [(3, .int (nI (t + 1))), (2, .int (nI t)), (0, .ref b), (1, .int (nI n))]) dX1_partingThing_29 1 rfl (nIs _) (by decide) rfl ?_
          refine x_pc (pc' := 32) rfl ?_
          refine x_goto (tgt := 4) dX1_partingThing_32 (by decide) ?_
          refine x_leq (ls' := [(3, .int (nI (t + 1))), (2, .int (chI (ptF al (t + 1)))), (0, .ref b), (1, .int (nI n))]) (by rw [ptF_n hb]; rfl) ?_
          exact ih (t + 1) (by omega)
        · exact absurd rfl c11
      · refine x_leq (ls' := [(3, .int (nI t)), (2, .int (nI bb)), (0, .ref b), (1, .int (nI n))]) rfl ?_
        have hbb := ptF_lt hb
        refine x_iload_n dX1_partingThing_9 1 rfl ?_
        refine x_iconst dX1_partingThing_10 ki_m1 ?_
        refine x_icmp_eq (x := nI bb) (y := (-1)) (tgt := 27) dX1_partingThing_11 (by decide) (fun c11 => ?_) (fun c11 => ?_)
        · exact absurd c11 (nI_ne1 (by omega))
        · refine x_aload_n dX1_partingThing_14 2 rfl ?_
          refine x_iload_n dX1_partingThing_15 0 rfl ?_
          refine x_cV (N := mX1_mostAlike) (d' := 1) (mc := 0) (ms := 0) (cb := 0) (sb := 0) (As := [.int (nI t)]) (st := []) dX1_partingThing_16 mX1_mostAlike_v lX1_88 rfl rfl (hB.1) rfl (by decide) (Nat.le_of_ble_eq_true rfl) (Books_mostAlike hB (by omega) hal) rfl (st1 := [.int (nI (mxF al t 5))]) rfl ?_
          refine x_pc (pc' := 19) rfl ?_
          refine x_aload_n dX1_partingThing_19 2 rfl ?_
          refine x_iload_n dX1_partingThing_20 1 rfl ?_
          refine x_cV (N := mX1_mostAlike) (d' := 1) (mc := 0) (ms := 0) (cb := 0) (sb := 0) (As := [.int (nI bb)]) (st := [.int (nI (mxF al t 5))]) dX1_partingThing_21 mX1_mostAlike_v lX1_88 rfl rfl (hB.1) rfl (by decide) (Nat.le_of_ble_eq_true rfl) (Books_mostAlike hB (by omega) hal) rfl (st1 := [.int (nI (mxF al bb 5)), .int (nI (mxF al t 5))]) rfl ?_
          refine x_icmpN_ge (tgt := 29) dX1_partingThing_24 (by decide) (by have := mxF_lt (t := t) hal 5; omega) (by have := mxF_lt (t := bb) hal 5; omega) (fun c24 => ?_) (fun c24 => ?_)
          · refine x_iinc (v := nI (t + 1)) (ls' := [(3, .int (nI (t + 1))), (2, .int (nI bb)), (0, .ref b), (1, .int (nI n))]) dX1_partingThing_29 0 rfl (nIs _) (by decide) rfl ?_
            refine x_goto (tgt := 4) dX1_partingThing_32 (by decide) ?_
            refine x_leq (ls' := [(3, .int (nI (t + 1))), (2, .int (chI (ptF al (t + 1)))), (0, .ref b), (1, .int (nI n))]) (by rw [ptF_b hb (by omega)]; rfl) ?_
            exact ih (t + 1) (by omega)
          · refine x_iload_n dX1_partingThing_27 0 rfl ?_
            refine x_istore_n (ls' := [(2, .int (nI t)), (3, .int (nI t)), (0, .ref b), (1, .int (nI n))]) dX1_partingThing_28 (by decide) rfl ?_
            refine x_iinc (v := nI (t + 1)) (ls' := [(3, .int (nI (t + 1))), (2, .int (nI t)), (0, .ref b), (1, .int (nI n))]) dX1_partingThing_29 1 rfl (nIs _) (by decide) rfl ?_
            refine x_goto (tgt := 4) dX1_partingThing_32 (by decide) ?_
            refine x_leq (ls' := [(3, .int (nI (t + 1))), (2, .int (chI (ptF al (t + 1)))), (0, .ref b), (1, .int (nI n))]) (by rw [ptF_a hb (by omega)]; rfl) ?_
            exact ih (t + 1) (by omega)
theorem Books_partingThing {K : xG} {h b n : Nat} {G : xHp} {bk : Nat → Nat → Nat} {bn fi : Nat} {fs : Int32} {al : Nat → Nat} (hB : BooksAt G b bk bn fi fs al) (hn : n ≤ 7) (hal : ∀ j, al j < 1000) : xCall K mX1_partingThing 2 0 0 [.ref b, .int (nI n)] h G (xRet (some (.int (chI (ptF al n)))) h G) := by
  refine x_entry (by decide) (ls := [(0, .ref b), (1, .int (nI n))]) rfl (Nat.le_of_ble_eq_true rfl) ?_
  refine x_iconst dX1_partingThing_0 ki_m1 ?_
  refine x_istore_n (ls' := [(2, .int (-1)), (0, .ref b), (1, .int (nI n))]) dX1_partingThing_1 (by decide) rfl ?_
  refine x_iconst dX1_partingThing_2 ki_0 ?_
  refine x_istore_n (ls' := [(3, .int (nI 0)), (2, .int (-1)), (0, .ref b), (1, .int (nI n))]) dX1_partingThing_3 (by decide) rfl ?_
  refine x_leq (ls' := [(3, .int (nI 0)), (2, .int (chI (ptF al 0))), (0, .ref b), (1, .int (nI n))]) rfl ?_
  exact Books_parting_loop hB hn hal n 0 (by omega)
theorem Books_fits_l2 {K : xG} {h x : Nat} {G0 : xHp} {hl : xHl} {rx : Option Nat} {rv : Option (List Nat)} {ch mo : Int32} {bk : Nat → Nat → Nat} {bn fi : Nat} {fs : Int32} {al : Nat → Nat} {n : Nat} {G1 : xHp} (hB : BooksAt G0 (x + 20) bk bn fi fs al) (hR : RuleIn G0 rx rv (x + 51)) (hO : HallOk hl) (hp2 : ∀ s, s < hl 0 2 → hl 2 s < 200) (hk : BkOk hl bk bn) (hv : ∀ k, k < bn → bk 0 k < n → okB hl rv bk k) (hn : n < 400) (hT1 : TrW G0 G1 x hl (goN hl rv (clearR hl) (n + 1)) rx ch mo) (next : ∀ G1, TrW G0 G1 x hl (goN hl rv (clearR hl) (n + 1)) rx ch mo → (∀ k, k < bn → bk 0 k < n + 1 → okB hl rv bk k) → xV K mX1_fits 4 0 0 h G1 31 [(3, .int (nI (n + 1))), (2, .int (lsF bk bn)), (0, .ref (x + 20)), (1, .ref (x + 37))] [] (xEx (fun e : xRw × xHp => TrW G0 e.2 x hl e.1 rx ch mo) (fun _ => some (.int (bI (fitB hl bk bn rv)))) (fun _ => h) (fun e => e.2))) : ∀ (i k : Nat), k + i = bn → (∀ j, j < k → bk 0 j = n → okB hl rv bk j) → xV K mX1_fits 4 0 0 h G1 44 [(4, .int (nI k)), (3, .int (nI n)), (2, .int (lsF bk bn)), (0, .ref (x + 20)), (1, .ref (x + 37))] [] (xEx (fun e : xRw × xHp => TrW G0 e.2 x hl e.1 rx ch mo) (fun _ => some (.int (bI (fitB hl bk bn rv)))) (fun _ => h) (fun e => e.2)) := by
  have hB1 := hT1.books hB
  obtain ⟨hk1, hk2⟩ := hk
  obtain ⟨o2, o3, o4, -⟩ := id hO
  intro i
  induction i with
  | zero =>
    intro k hk hj
    refine x_iload dX1_fits_44 0 rfl ?_
    refine x_aload_n dX1_fits_46 3 rfl ?_
    refine x_get dX1_fits_47 fX1_24 (hB1.1) rfl ?_
    refine x_icmpN_ge (tgt := 93) dX1_fits_50 (by decide) (by omega) (by omega) (fun c50 => ?_) (fun c50 => ?_)
    · refine x_iinc (v := nI (n + 1)) (ls' := [(3, .int (nI (n + 1))), (4, .int (nI k)), (2, .int (lsF bk bn)), (0, .ref (x + 20)), (1, .ref (x + 37))]) dX1_fits_93 1 rfl (nIs _) (by decide) rfl ?_
      refine x_goto (tgt := 31) dX1_fits_96 (by decide) ?_
      refine x_perm (ls' := [(3, .int (nI (n + 1))), (2, .int (lsF bk bn)), (0, .ref (x + 20)), (1, .ref (x + 37))]) [0, 2, 3, 4] rfl ?_
      refine next G1 hT1 (fun j h1 h2 => ?_)
      by_cases e : bk 0 j = n
      · exact hj j (by omega) e
      · exact hv j h1 (by omega)
    · exact absurd c50 (by omega)
  | succ i ih =>
    intro k hk hj
    have hkk := hk2 k (by omega)
    refine x_iload dX1_fits_44 0 rfl ?_
    refine x_aload_n dX1_fits_46 3 rfl ?_
    refine x_get dX1_fits_47 fX1_24 (hB1.1) rfl ?_
    refine x_icmpN_ge (tgt := 93) dX1_fits_50 (by decide) (by omega) (by omega) (fun c50 => ?_) (fun c50 => ?_)
    · exact absurd c50 (by omega)
    · refine x_aload_n dX1_fits_53 3 rfl ?_
      refine x_get dX1_fits_54 fX1_11 (hB1.1) rfl ?_
      refine x_iload dX1_fits_57 0 rfl ?_
      refine x_ialdN dX1_fits_59 (hB1.2.1) (by omega) (by decide) ?_
      refine x_iload_n dX1_fits_60 1 rfl ?_
      refine x_pc (pc' := 61) rfl ?_
      refine x_icmpN_ne (tgt := 87) dX1_fits_61 (by decide) (by omega) (by omega) (fun c61 => ?_) (fun c61 => ?_)
      · refine x_iinc (v := nI (k + 1)) (ls' := [(4, .int (nI (k + 1))), (3, .int (nI n)), (2, .int (lsF bk bn)), (0, .ref (x + 20)), (1, .ref (x + 37))]) dX1_fits_87 0 rfl (nIs _) (by decide) rfl ?_
        refine x_goto (tgt := 44) dX1_fits_90 (by decide) ?_
        refine ih (k + 1) (by omega) (fun j h1 => ?_)
        by_cases e : j = k
        · subst e; exact fun e => absurd e c61
        · exact hj j (by omega)
      · refine x_aload_n dX1_fits_64 4 rfl ?_
        refine x_aload_n dX1_fits_65 3 rfl ?_
        refine x_get dX1_fits_66 fX1_15 (hB1.1) rfl ?_
        refine x_iload dX1_fits_69 0 rfl ?_
        refine x_ialdN dX1_fits_71 (hB1.2.2.1) (by omega) (by decide) ?_
        refine x_cV (N := mX2_howIs) (d' := 0) (mc := 0) (ms := 0) (cb := 0) (sb := 0) (As := [.int (nI (bk 1 k))]) (st := []) dX1_fits_72 mX2_howIs_v lX1_72 rfl rfl (hT1.2.1.1) rfl (by decide) (Nat.le_of_ble_eq_true rfl) (Day_howIs hT1.2.1 (by omega)) rfl (st1 := [.int ((goN hl rv (clearR hl) (n + 1)) (21 + bk 1 k))]) rfl ?_
        refine x_aload_n dX1_fits_75 3 rfl ?_
        refine x_get dX1_fits_76 fX1_18 (hB1.1) rfl ?_
        refine x_iload dX1_fits_79 0 rfl ?_
        refine x_pc (pc' := 81) rfl ?_
        refine x_ialdN dX1_fits_81 (hB1.2.2.2.1) (by omega) (by decide) ?_
        refine x_icmp_eq (x := (goN hl rv (clearR hl) (n + 1)) (21 + bk 1 k)) (y := nI (bk 2 k)) (tgt := 87) dX1_fits_82 (by decide) (fun c82 => ?_) (fun c82 => ?_)
        · refine x_iinc (v := nI (k + 1)) (ls' := [(4, .int (nI (k + 1))), (3, .int (nI n)), (2, .int (lsF bk bn)), (0, .ref (x + 20)), (1, .ref (x + 37))]) dX1_fits_87 0 rfl (nIs _) (by decide) rfl ?_
          refine x_goto (tgt := 44) dX1_fits_90 (by decide) ?_
          refine ih (k + 1) (by omega) (fun j h1 => ?_)
          by_cases e : j = k
          · subst e; exact fun _ => by unfold okB; rw [c61]; exact c82
          · exact hj j (by omega)
        · refine x_iconst dX1_fits_85 ki_0 ?_
          exact x_zret dX1_fits_86 rfl (by first | rfl | decide | exact bI_nar _) (xEx_i (_, G1) hT1 (by rw [fitB_f (k := k) (by omega) (by unfold okB; rw [c61]; exact c82)]; rfl) rfl rfl)
theorem Books_fits_l1 {K : xG} {h x : Nat} {G0 : xHp} {hl : xHl} {rx : Option Nat} {rv : Option (List Nat)} {ch mo : Int32} {bk : Nat → Nat → Nat} {bn fi : Nat} {fs : Int32} {al : Nat → Nat} (hB : BooksAt G0 (x + 20) bk bn fi fs al) (hR : RuleIn G0 rx rv (x + 51)) (hO : HallOk hl) (hp2 : ∀ s, s < hl 0 2 → hl 2 s < 200) (hk : BkOk hl bk bn) : ∀ (i n : Nat) (G1 : xHp), n + i = 400 → (∀ k, k < bn → bk 0 k < n → okB hl rv bk k) → TrW G0 G1 x hl (goN hl rv (clearR hl) n) rx ch mo → xV K mX1_fits 4 0 0 h G1 31 [(3, .int (nI n)), (2, .int (lsF bk bn)), (0, .ref (x + 20)), (1, .ref (x + 37))] [] (xEx (fun e : xRw × xHp => TrW G0 e.2 x hl e.1 rx ch mo) (fun _ => some (.int (bI (fitB hl bk bn rv)))) (fun _ => h) (fun e => e.2)) := by
  have hls := lsF_lt (fun k h => (hk.2 k h).1)
  intro i
  induction i with
  | zero =>
    intro n G1 hi hv hT1
    have hi0 : n = 400 := by omega
    subst hi0
    have hB1 := hT1.books hB
    refine x_iload_n dX1_fits_31 0 rfl ?_
    refine x_iload_n dX1_fits_32 1 rfl ?_
    refine x_icmp_gt (x := nI 400) (y := lsF bk bn) (tgt := 99) dX1_fits_33 (by decide) (fun c33 => ?_) (fun c33 => ?_)
    · refine x_iconst dX1_fits_99 ki_1 ?_
      exact x_zret dX1_fits_100 rfl (by first | rfl | decide | exact bI_nar _) (xEx_i (_, G1) hT1 (by rw [fitB_t (fun k h => hv k h ((nI_ltI (by have := (hk.2 k h).1; omega) (by omega)).mp (Int32.lt_of_le_of_lt (lsF_ge bk h) c33)))]; rfl) rfl rfl)
    · exact absurd hls c33
  | succ i ih =>
    intro n G1 hi hv hT1
    have hB1 := hT1.books hB
    refine x_iload_n dX1_fits_31 0 rfl ?_
    refine x_iload_n dX1_fits_32 1 rfl ?_
    refine x_icmp_gt (x := nI n) (y := lsF bk bn) (tgt := 99) dX1_fits_33 (by decide) (fun c33 => ?_) (fun c33 => ?_)
    · refine x_iconst dX1_fits_99 ki_1 ?_
      exact x_zret dX1_fits_100 rfl (by first | rfl | decide | exact bI_nar _) (xEx_i (_, G1) hT1 (by rw [fitB_t (fun k h => hv k h ((nI_ltI (by have := (hk.2 k h).1; omega) (by omega)).mp (Int32.lt_of_le_of_lt (lsF_ge bk h) c33)))]; rfl) rfl rfl)
    · refine x_aload_n dX1_fits_36 3 rfl ?_
      refine x_cVe (N := mX2_goOn) (d' := 3) (mc := 0) (ms := 0) (cb := 0) (sb := 0) (As := []) (st := []) dX1_fits_37 mX2_goOn_v lX1_66 rfl rfl (hT1.2.1.1) rfl (by decide) (Nat.le_of_ble_eq_true rfl) (Tr_goOn hT1 hR hO (goN_ok hO (clear_ok hO hp2) n)) rfl (sf := fun G2 => [.int ((goMin hl rv (goN hl rv (clearR hl) n)).2)]) (fun _ => rfl) (fun G2 hT2 => ?_)
      have hB2 := hT2.books hB
      refine x_pop dX1_fits_40 rfl ?_
      refine x_iconst dX1_fits_41 ki_0 ?_
      refine x_istore (ls' := [(4, .int (nI 0)), (3, .int (nI n)), (2, .int (lsF bk bn)), (0, .ref (x + 20)), (1, .ref (x + 37))]) dX1_fits_42 (by decide) rfl ?_
      exact Books_fits_l2 hB hR hO hp2 hk hv (by omega) hT2 (fun G3 a1 a2 => ih (n + 1) G3 (by omega) a2 a1) bn 0 (by omega) (fun j h => absurd h (by omega))
theorem Books_fits_l0 {K : xG} {h x : Nat} {G0 : xHp} {hl : xHl} {rx : Option Nat} {rv : Option (List Nat)} {ch mo : Int32} {bk : Nat → Nat → Nat} {bn fi : Nat} {fs : Int32} {al : Nat → Nat} {G1 : xHp} (hB : BooksAt G0 (x + 20) bk bn fi fs al) (hR : RuleIn G0 rx rv (x + 51)) (hO : HallOk hl) (hp2 : ∀ s, s < hl 0 2 → hl 2 s < 200) (hk : BkOk hl bk bn) (hT1 : TrW G0 G1 x hl (clearR hl) rx ch mo) : ∀ (i k : Nat), k + i = bn → xV K mX1_fits 4 0 0 h G1 4 [(3, .int (nI k)), (2, .int (lsF bk k)), (0, .ref (x + 20)), (1, .ref (x + 37))] [] (xEx (fun e : xRw × xHp => TrW G0 e.2 x hl e.1 rx ch mo) (fun _ => some (.int (bI (fitB hl bk bn rv)))) (fun _ => h) (fun e => e.2)) := by
  have hB1 := hT1.books hB
  obtain ⟨hk1, hk2⟩ := id hk
  intro i
  induction i with
  | zero =>
    intro k hi
    have hi0 : k = bn := by omega
    subst hi0
    refine x_iload_n dX1_fits_4 0 rfl ?_
    refine x_aload_n dX1_fits_5 2 rfl ?_
    refine x_get dX1_fits_6 fX1_24 (hB1.1) rfl ?_
    refine x_icmpN_ge (tgt := 29) dX1_fits_9 (by decide) (by omega) (by omega) (fun c9 => ?_) (fun c9 => ?_)
    · refine x_iconst dX1_fits_29 ki_0 ?_
      refine x_istore_n (ls' := [(3, .int (nI 0)), (2, .int (lsF bk k)), (0, .ref (x + 20)), (1, .ref (x + 37))]) dX1_fits_30 (by decide) rfl ?_
      exact Books_fits_l1 hB hR hO hp2 hk 400 0 G1 (by omega) (fun k h1 h2 => absurd h2 (by omega)) hT1
    · exact absurd c9 (by omega)
  | succ i ih =>
    intro k hi
    refine x_iload_n dX1_fits_4 0 rfl ?_
    refine x_aload_n dX1_fits_5 2 rfl ?_
    refine x_get dX1_fits_6 fX1_24 (hB1.1) rfl ?_
    refine x_icmpN_ge (tgt := 29) dX1_fits_9 (by decide) (by omega) (by omega) (fun c9 => ?_) (fun c9 => ?_)
    · exact absurd c9 (by omega)
    · refine x_iload_n dX1_fits_12 1 rfl ?_
      refine x_aload_n dX1_fits_13 2 rfl ?_
      refine x_get dX1_fits_14 fX1_11 (hB1.1) rfl ?_
      refine x_iload_n dX1_fits_17 0 rfl ?_
      refine x_ialdN dX1_fits_18 (hB1.2.1) (by omega) (by decide) ?_
      refine x_pc (pc' := 19) rfl ?_
      refine x_mmax dX1_fits_19 lX1_60 xw_maxS xw_mathI xw_maxC (by decide) (Nat.le_of_ble_eq_true rfl) ?_
      refine x_istore_n (ls' := [(2, .int (mxI (lsF bk k) (nI (bk 0 k)))), (3, .int (nI k)), (0, .ref (x + 20)), (1, .ref (x + 37))]) dX1_fits_22 (by decide) rfl ?_
      refine x_iinc (v := nI (k + 1)) (ls' := [(3, .int (nI (k + 1))), (2, .int (mxI (lsF bk k) (nI (bk 0 k)))), (0, .ref (x + 20)), (1, .ref (x + 37))]) dX1_fits_23 1 rfl (nIs _) (by decide) rfl ?_
      refine x_goto (tgt := 4) dX1_fits_26 (by decide) ?_
      exact ih (k + 1) (by omega)
theorem Books_fits {K : xG} {h x : Nat} {G0 : xHp} {hl : xHl} {rx : Option Nat} {rv : Option (List Nat)} {ch mo : Int32} {bk : Nat → Nat → Nat} {bn fi : Nat} {fs : Int32} {al : Nat → Nat} {G1 : xHp} (hB : BooksAt G0 (x + 20) bk bn fi fs al) (hR : RuleIn G0 rx rv (x + 51)) (hO : HallOk hl) (hp2 : ∀ s, s < hl 0 2 → hl 2 s < 200) (hk : BkOk hl bk bn) (hT1 : TrW G0 G1 x hl (clearR hl) rx ch mo) : xCall K mX1_fits 4 0 0 [.ref (x + 20), .ref (x + 37)] h G1 (xEx (fun e : xRw × xHp => TrW G0 e.2 x hl e.1 rx ch mo) (fun _ => some (.int (bI (fitB hl bk bn rv)))) (fun _ => h) (fun e => e.2)) := by
  refine x_entry (by decide) (ls := [(0, .ref (x + 20)), (1, .ref (x + 37))]) rfl (Nat.le_of_ble_eq_true rfl) ?_
  refine x_iconst dX1_fits_0 ki_m1 ?_
  refine x_istore_n (ls' := [(2, .int (-1)), (0, .ref (x + 20)), (1, .ref (x + 37))]) dX1_fits_1 (by decide) rfl ?_
  refine x_iconst dX1_fits_2 ki_0 ?_
  refine x_istore_n (ls' := [(3, .int (nI 0)), (2, .int (-1)), (0, .ref (x + 20)), (1, .ref (x + 37))]) dX1_fits_3 (by decide) rfl ?_
  refine x_leq (ls' := [(3, .int (nI 0)), (2, .int (lsF bk 0)), (0, .ref (x + 20)), (1, .ref (x + 37))]) rfl ?_
  exact Books_fits_l0 hB hR hO hp2 hk hT1 bn 0 (by omega)
theorem Books_note_loop {K : xG} {h x : Nat} {G0 : xHp} {hl : xHl} {rx : Option Nat} {rv : Option (List Nat)} {ch mo : Int32} {bk : Nat → Nat → Nat} {bn fi : Nat} {fs : Int32} {al : Nat → Nat} {n : Nat} {G2 : xHp} {rk : xRw} (hB : BooksAt G0 (x + 20) bk bn fi fs al) (hR : RuleIn G0 rx rv (x + 51)) (hO : HallOk hl) (hp2 : ∀ s, s < hl 0 2 → hl 2 s < 200) (hal : ∀ j, al j < 900) (hn : n < 400) (hT2 : TrW G0 G2 x hl rk rx ch mo) (hvis : VisEq hl (goN hl rv (clearR hl) (n + 1)) rk) (hok : RowOk hl rk) : ∀ (i t : Nat), t + i = hl 0 4 → xV K mX1_noteThings 5 0 0 h (xup G2 (x + 24) (eI 0 35 (nF (noteF rk al t)))) 9 [(3, .int (nI t)), (0, .ref (x + 20)), (1, .ref (x + 37)), (2, .int (nI n))] [] (xEx (fun e : xRw × xHp => TrW (xup G0 (x + 24) (eI 0 35 (nF (noteF (goN hl rv (clearR hl) (n + 1)) al (hl 0 4))))) e.2 x hl e.1 rx ch mo) (fun _ => none) (fun _ => h) (fun e => e.2)) := by
  have hB2 := hT2.books hB
  obtain ⟨o2, o3, o4, -⟩ := id hO
  obtain ⟨w1, -⟩ := hok
  have hnl := fun t ht j => (noteF_le (fun j => Nat.le_of_lt (hal j)) t j (r := rk) (fun i hi => (how_nI (w1 i (Nat.lt_of_lt_of_le hi ht))).2)).1
  intro i
  induction i with
  | zero =>
    intro t hi
    have hi0 : t = hl 0 4 := by omega
    subst hi0
    refine x_iload_n dX1_noteThings_9 0 rfl ?_
    refine x_aload_n dX1_noteThings_10 2 rfl ?_
    refine x_get dX1_noteThings_11 fX1_80 (xup_of (by omega) (hT2.2.1.1)) rfl ?_
    refine x_get dX1_noteThings_14 fX1_84 (xup_of (by omega) (hT2.2.1.2.1.1)) rfl ?_
    refine x_icmpN_ge (tgt := 44) dX1_noteThings_17 (by decide) (by omega) (by omega) (fun c17 => ?_) (fun c17 => ?_)
    · exact x_vret dX1_noteThings_44 rfl (xEx_i (rk, _) (by rw [← noteF_cong al (hl 0 4) (fun t ht => (hvis.1 t ht).1)]; exact hT2.both _ (by omega)) rfl rfl rfl)
    · exact absurd c17 (by omega)
  | succ i ih =>
    intro t hi
    obtain ⟨w2, w3⟩ := how_nI (w1 t (by omega))
    have hnt := hnl t (by omega) (t * 5 + thN (rk (21 + t)))
    refine x_iload_n dX1_noteThings_9 0 rfl ?_
    refine x_aload_n dX1_noteThings_10 2 rfl ?_
    refine x_get dX1_noteThings_11 fX1_80 (xup_of (by omega) (hT2.2.1.1)) rfl ?_
    refine x_get dX1_noteThings_14 fX1_84 (xup_of (by omega) (hT2.2.1.2.1.1)) rfl ?_
    refine x_icmpN_ge (tgt := 44) dX1_noteThings_17 (by decide) (by omega) (by omega) (fun c17 => ?_) (fun c17 => ?_)
    · exact absurd c17 (by omega)
    · refine x_aload_n dX1_noteThings_20 1 rfl ?_
      refine x_get dX1_noteThings_21 fX1_21 (xup_of (by omega) (hB2.1)) rfl ?_
      refine x_iload_n dX1_noteThings_24 0 rfl ?_
      refine x_iconst dX1_noteThings_25 ki_5 ?_
      refine x_pc (pc' := 26) rfl ?_
      refine x_imulN dX1_noteThings_26 ?_
      refine x_aload_n dX1_noteThings_27 2 rfl ?_
      refine x_iload_n dX1_noteThings_28 0 rfl ?_
      refine x_cV (N := mX2_howIs) (d' := 0) (mc := 0) (ms := 0) (cb := 0) (sb := 0) (As := [.int (nI t)]) (st := [.int (nI (t * 5)), .ref (x + 24)]) dX1_noteThings_29 mX2_howIs_v lX1_72 rfl rfl (xup_of (by omega) (hT2.2.1.1)) rfl (by decide) (Nat.le_of_ble_eq_true rfl) (Day_howIs (hT2.2.1.off (by omega)) (by omega)) rfl (st1 := [.int (rk (21 + t)), .int (nI (t * 5)), .ref (x + 24)]) rfl ?_
      refine x_topi (y := nI (thN (rk (21 + t)))) w2 ?_
      refine x_iaddN dX1_noteThings_32 ?_
      refine x_dup2 dX1_noteThings_33 rfl rfl ?_
      refine x_ialdN dX1_noteThings_34 (xup_eq) (by omega) (by decide) ?_
      refine x_iconst dX1_noteThings_35 ki_1 ?_
      refine x_iaddN dX1_noteThings_36 ?_
      refine x_iastN dX1_noteThings_37 (xup_eq) (by omega) (by decide) ?_
      refine x_geq xup_up ?_
      refine x_pc (pc' := 38) rfl ?_
      refine x_iinc (v := nI (t + 1)) (ls' := [(3, .int (nI (t + 1))), (0, .ref (x + 20)), (1, .ref (x + 37)), (2, .int (nI n))]) dX1_noteThings_38 0 rfl (nIs _) (by decide) rfl ?_
      refine x_goto (tgt := 9) dX1_noteThings_41 (by decide) ?_
      refine x_geq (congrArg (fun f => xup G2 (x + 24) (eI 0 35 f)) (noteF_s rk al t)) ?_
      exact ih (t + 1) (by omega)
theorem Books_noteThings {K : xG} {h x : Nat} {G0 : xHp} {hl : xHl} {rx : Option Nat} {rv : Option (List Nat)} {ch mo : Int32} {bk : Nat → Nat → Nat} {bn fi : Nat} {fs : Int32} {al : Nat → Nat} {n : Nat} {G1 : xHp} (hB : BooksAt G0 (x + 20) bk bn fi fs al) (hR : RuleIn G0 rx rv (x + 51)) (hO : HallOk hl) (hp2 : ∀ s, s < hl 0 2 → hl 2 s < 200) (hal : ∀ j, al j < 900) (hn : n < 400) (hT1 : TrW G0 G1 x hl (clearR hl) rx ch mo) : xCall K mX1_noteThings 5 0 0 [.ref (x + 20), .ref (x + 37), .int (nI n)] h G1 (xEx (fun e : xRw × xHp => TrW (xup G0 (x + 24) (eI 0 35 (nF (noteF (goN hl rv (clearR hl) (n + 1)) al (hl 0 4))))) e.2 x hl e.1 rx ch mo) (fun _ => none) (fun _ => h) (fun e => e.2)) := by
  refine x_entry (by decide) (ls := [(0, .ref (x + 20)), (1, .ref (x + 37)), (2, .int (nI n))]) rfl (Nat.le_of_ble_eq_true rfl) ?_
  have hB1 := hT1.books hB
  refine x_aload_n dX1_noteThings_0 1 rfl ?_
  refine x_iload_n dX1_noteThings_1 2 rfl ?_
  refine x_iconst dX1_noteThings_2 ki_1 ?_
  refine x_iaddN dX1_noteThings_3 ?_
  refine x_cVe (N := mX2_goFar) (d' := 4) (mc := 0) (ms := 0) (cb := 0) (sb := 0) (As := [.int (nI (n + 1))]) (st := []) dX1_noteThings_4 mX2_goFar_v lX1_76 rfl rfl (hT1.2.1.1) rfl (by decide) (Nat.le_of_ble_eq_true rfl) (Tr_goFar hT1 hR hO (clear_ok hO hp2) (by omega)) rfl (sf := fun e2 => []) (fun _ => rfl) (fun e2 hq2 => ?_)
  obtain ⟨rk, G2⟩ := e2
  obtain ⟨⟨hvis, hok⟩, hT2⟩ := hq2
  simp only at hvis hok hT2
  have hB2 := hT2.books hB
  refine x_iconst dX1_noteThings_7 ki_0 ?_
  refine x_istore_n (ls' := [(3, .int (nI 0)), (0, .ref (x + 20)), (1, .ref (x + 37)), (2, .int (nI n))]) dX1_noteThings_8 (by decide) rfl ?_
  refine x_geq (show G2 = xup G2 (x + 24) (eI 0 35 (nF (noteF rk al 0))) from (xup_same hB2.2.2.2.2).symm) ?_
  exact Books_note_loop hB hR hO hp2 hal hn hT2 hvis hok (hl 0 4) 0 (by omega)
