theorem Md_shift {K : xG} {h y : Nat} {G0 : xHp} {hl : xHl} {r : xRw} {sc : Nat × Nat × Int32} {A : Nat → Nat → Int32} {F : Nat → Int32} {wa sa : Nat → Int64} : ∀ (i n : Nat) (G1 : xHp), n + i = 665 → MW G0 G1 y hl r sc (setA A 37 (shF (A 37) n)) (upd F 49 (nI 20)) wa sa → xV K mX12_keepsAct 3 0 0 h G1 12 [(1, .int (nI (35 + n))), (0, .ref y)] [] (mdQ G0 h y none hl r sc (setA A 37 (keepP (A 37) 20 r)) (keepF F 20) wa sa) := by
  intro i
  induction i with
  | zero =>
    intro n G1 hi hN
    have hi0 : n = 665 := by omega
    subst hi0
    refine x_iload_n dX12_keepsAct_12 0 rfl ?_
    refine x_sipush dX12_keepsAct_13 ks_700 ?_
    refine x_icmpN_ge (tgt := 40) dX12_keepsAct_16 (by decide) (by omega) (by omega) (fun c16 => ?_) (fun c16 => ?_)
    · refine x_aload_n dX12_keepsAct_40 1 rfl ?_
      refine x_dup dX12_keepsAct_41 rfl ?_
      refine x_get (v := .int (nI 20)) dX12_keepsAct_42 fX12_327 (hN.1) rfl ?_
      refine x_iconst dX12_keepsAct_45 ki_1 ?_
      refine x_isubN dX12_keepsAct_46 (by decide) ?_
      refine x_topi (y := nI 19) rfl ?_
      refine x_put (fs' := [.int (F 0), .ref (y + 1), .ref (y + 2), .ref (y + 3), .ref (y + 4), .ref (y + 5), .ref (y + 6), .ref (y + 7), .ref (y + 8), .ref (y + 9), .ref (y + 10), .ref (y + 11), .ref (y + 12), .ref (y + 13), .ref (y + 14), .ref (y + 15), .ref (y + 16), .ref (y + 17), .ref (y + 18), .ref (y + 19), .ref (y + 20), .ref (y + 21), .ref (y + 22), .ref (y + 23), .ref (y + 24), .ref (y + 25), .ref (y + 26), .int (F 27), .int (F 28), .int (F 29), .int (F 30), .int (F 31), .int (F 32), .int (F 33), .int (F 34), .int (F 35), .int (F 36), .ref (y + 27), .ref (y + 28), .ref (y + 29), .ref (y + 30), .ref (y + 31), .ref (y + 32), .ref (y + 33), .ref (y + 34), .ref (y + 35), .ref (y + 36), .ref (y + 37), .ref (y + 38), .int (nI 19), .int (F 50), .int (F 51), .int (F 52), .int (F 53), .ref (y + 39), .ref (y + 40), .ref (y + 41), .int (F 57), .int (F 58), .ref (y + 42), .ref (y + 43), .ref (y + 44), .ref (y + 45), .int (F 63), .int (F 64)]) dX12_keepsAct_47 fX12_327 (hN.1) (Nat.le_of_ble_eq_true rfl) rfl rfl rfl ?_
      refine x_geq (G' := xup _ y (modO y (upd F 49 (nI 19)))) rfl ?_
      have hM1 := hN.fld (upd F 49 (nI 19))
      refine x_pc (pc' := 50) rfl ?_
      refine x_aload_n dX12_keepsAct_50 1 rfl ?_
      refine x_aload_n dX12_keepsAct_51 1 rfl ?_
      refine x_get (v := .int (nI 19)) dX12_keepsAct_52 fX12_327 (hM1.1) rfl ?_
      refine x_iconst dX12_keepsAct_55 ki_0 ?_
      refine x_cVe (N := mX12_movesAll) (d' := 2) (mc := 0) (ms := 0) (cb := 0) (sb := 0) (As := [.int (nI 19), .int (nI 0)]) (st := []) dX12_keepsAct_56 mX12_movesAll_v lX12_421 rfl rfl (hM1.1) rfl (by decide) (Nat.le_of_ble_eq_true rfl) (Md_mall0 (k := 19) hM1 (by decide)) rfl (sf := fun G2 => []) (fun _ => rfl) (fun G2 hN2 => ?_)
      refine x_aload_n dX12_keepsAct_59 1 rfl ?_
      refine x_dup dX12_keepsAct_60 rfl ?_
      refine x_get (v := .int (nI 19)) dX12_keepsAct_61 fX12_327 (hN2.1) rfl ?_
      refine x_iconst dX12_keepsAct_64 ki_1 ?_
      refine x_iaddN dX12_keepsAct_65 ?_
      refine x_pc (pc' := 66) rfl ?_
      refine x_put (fs' := [.int (F 0), .ref (y + 1), .ref (y + 2), .ref (y + 3), .ref (y + 4), .ref (y + 5), .ref (y + 6), .ref (y + 7), .ref (y + 8), .ref (y + 9), .ref (y + 10), .ref (y + 11), .ref (y + 12), .ref (y + 13), .ref (y + 14), .ref (y + 15), .ref (y + 16), .ref (y + 17), .ref (y + 18), .ref (y + 19), .ref (y + 20), .ref (y + 21), .ref (y + 22), .ref (y + 23), .ref (y + 24), .ref (y + 25), .ref (y + 26), .int (F 27), .int (F 28), .int (F 29), .int (F 30), .int (F 31), .int (F 32), .int (F 33), .int (F 34), .int (F 35), .int (F 36), .ref (y + 27), .ref (y + 28), .ref (y + 29), .ref (y + 30), .ref (y + 31), .ref (y + 32), .ref (y + 33), .ref (y + 34), .ref (y + 35), .ref (y + 36), .ref (y + 37), .ref (y + 38), .int (nI 20), .int (nI (35 * 19 + 35)), .int (nI 0), .int (F 52), .int (F 53), .ref (y + 39), .ref (y + 40), .ref (y + 41), .int (F 57), .int (F 58), .ref (y + 42), .ref (y + 43), .ref (y + 44), .ref (y + 45), .int (F 63), .int (F 64)]) dX12_keepsAct_66 fX12_327 (hN2.1) (Nat.le_of_ble_eq_true rfl) rfl rfl rfl ?_
      refine x_geq (G' := xup _ y (modO y (keepF F 20))) rfl ?_
      have hM2 := hN2.fld (keepF F 20)
      exact x_vret dX12_keepsAct_69 rfl (xEx_i _ (by have e := hM2; rw [show setA (setA A 37 (shF (A 37) 665)) 37 (layF ((setA A 37 (shF (A 37) 665)) 37) r (35 * 19) 35) = setA A 37 (keepP (A 37) 20 r) from setA_up] at e; exact e) rfl rfl rfl)
    · exact absurd c16 (by omega)
  | succ i ih =>
    intro n G1 hi hN
    refine x_iload_n dX12_keepsAct_12 0 rfl ?_
    refine x_sipush dX12_keepsAct_13 ks_700 ?_
    refine x_icmpN_ge (tgt := 40) dX12_keepsAct_16 (by decide) (by omega) (by omega) (fun c16 => ?_) (fun c16 => ?_)
    · exact absurd c16 (by omega)
    · refine x_aload_n dX12_keepsAct_19 1 rfl ?_
      refine x_get (v := .ref (y + 37)) dX12_keepsAct_20 fX12_124 (hN.1) rfl ?_
      refine x_iload_n dX12_keepsAct_23 0 rfl ?_
      refine x_bipush dX12_keepsAct_24 kb_35 ?_
      refine x_isubN dX12_keepsAct_26 (by omega) ?_
      refine x_topi (y := nI n) (by rw [show 35 + n - 35 = n by omega]) ?_
      refine x_aload_n dX12_keepsAct_27 1 rfl ?_
      refine x_pc (pc' := 28) rfl ?_
      refine x_get (v := .ref (y + 37)) dX12_keepsAct_28 fX12_124 (hN.1) rfl ?_
      refine x_iload_n dX12_keepsAct_31 0 rfl ?_
      refine x_ialdN (n := 700) (f := (shF (A 37) n)) dX12_keepsAct_32 (hN.c37) (by omega) (by decide) ?_
      refine x_iastN (n := 700) (f := (shF (A 37) n)) dX12_keepsAct_33 (hN.c37) (by omega) (by decide) ?_
      have hM3 := hN.a37 (upd (shF (A 37) n) n ((shF (A 37) n) (35 + n)))
      refine x_iinc (v := nI (35 + n + 1)) (ls' := [(1, .int (nI (35 + n + 1))), (0, .ref y)]) dX12_keepsAct_34 0 rfl (nIs _) (by decide) rfl ?_
      refine x_goto (tgt := 12) dX12_keepsAct_37 (by decide) ?_
      exact ih (n + 1) _ (by omega) (by have e := hM3; rw [sh_sA] at e; exact e)
theorem Md_keepsAct {K : xG} {h y pm : Nat} {G0 G : xHp} {hl : xHl} {r : xRw} {sc : Nat × Nat × Int32} {A : Nat → Nat → Int32} {F : Nat → Int32} {wa sa : Nat → Int64} (hM : MW G0 G y hl r sc A F wa sa) (hpm : F 49 = nI pm) (hp20 : pm ≤ 20) : xCall K mX12_keepsAct 3 0 0 [.ref y] h G (mdQ G0 h y none hl r sc (setA A 37 (keepP (A 37) pm r)) (keepF F pm) wa sa) := by
  refine x_entry (by decide) (ls := [(0, .ref y)]) rfl (Nat.le_of_ble_eq_true rfl) ?_
  have hN := hM.f49 hpm
  refine x_aload_n dX12_keepsAct_0 0 rfl ?_
  refine x_get (v := .int (nI pm)) dX12_keepsAct_1 fX12_327 (hN.1) rfl ?_
  refine x_bipush dX12_keepsAct_4 kb_20 ?_
  refine x_icmpN_ne (tgt := 50) dX12_keepsAct_6 (by decide) (by omega) (by omega) (fun c6 => ?_) (fun c6 => ?_)
  · refine x_aload_n dX12_keepsAct_50 0 rfl ?_
    refine x_aload_n dX12_keepsAct_51 0 rfl ?_
    refine x_get (v := .int (nI pm)) dX12_keepsAct_52 fX12_327 (hN.1) rfl ?_
    refine x_iconst dX12_keepsAct_55 ki_0 ?_
    refine x_cVe (N := mX12_movesAll) (d' := 2) (mc := 0) (ms := 0) (cb := 0) (sb := 0) (As := [.int (nI pm), .int (nI 0)]) (st := []) dX12_keepsAct_56 mX12_movesAll_v lX12_421 rfl rfl (hN.1) rfl (by decide) (Nat.le_of_ble_eq_true rfl) (Md_mall0 (k := pm) hN (by omega)) rfl (sf := fun G2 => []) (fun _ => rfl) (fun G2 hN2 => ?_)
    refine x_pc (pc' := 59) rfl ?_
    refine x_aload_n dX12_keepsAct_59 0 rfl ?_
    refine x_dup dX12_keepsAct_60 rfl ?_
    refine x_get (v := .int (nI pm)) dX12_keepsAct_61 fX12_327 (hN2.1) rfl ?_
    refine x_iconst dX12_keepsAct_64 ki_1 ?_
    refine x_iaddN dX12_keepsAct_65 ?_
    refine x_put (fs' := [.int (F 0), .ref (y + 1), .ref (y + 2), .ref (y + 3), .ref (y + 4), .ref (y + 5), .ref (y + 6), .ref (y + 7), .ref (y + 8), .ref (y + 9), .ref (y + 10), .ref (y + 11), .ref (y + 12), .ref (y + 13), .ref (y + 14), .ref (y + 15), .ref (y + 16), .ref (y + 17), .ref (y + 18), .ref (y + 19), .ref (y + 20), .ref (y + 21), .ref (y + 22), .ref (y + 23), .ref (y + 24), .ref (y + 25), .ref (y + 26), .int (F 27), .int (F 28), .int (F 29), .int (F 30), .int (F 31), .int (F 32), .int (F 33), .int (F 34), .int (F 35), .int (F 36), .ref (y + 27), .ref (y + 28), .ref (y + 29), .ref (y + 30), .ref (y + 31), .ref (y + 32), .ref (y + 33), .ref (y + 34), .ref (y + 35), .ref (y + 36), .ref (y + 37), .ref (y + 38), .int (nI (pm + 1)), .int (nI (35 * pm + 35)), .int (nI 0), .int (F 52), .int (F 53), .ref (y + 39), .ref (y + 40), .ref (y + 41), .int (F 57), .int (F 58), .ref (y + 42), .ref (y + 43), .ref (y + 44), .ref (y + 45), .int (F 63), .int (F 64)]) dX12_keepsAct_66 fX12_327 (hN2.1) (Nat.le_of_ble_eq_true rfl) rfl rfl rfl ?_
    refine x_geq (G' := xup _ y (modO y (upd (mF F 0 (35 * pm + 35)) 49 (nI (pm + 1))))) rfl ?_
    have hM1 := hN2.fld (upd (mF F 0 (35 * pm + 35)) 49 (nI (pm + 1)))
    exact x_vret dX12_keepsAct_69 rfl (xEx_i _ (by rw [keepF_n (by omega), keepP_n (by omega)]; exact hM1) rfl rfl rfl)
  · have hp0 : pm = 20 := by omega
    subst hp0
    refine x_bipush dX12_keepsAct_9 kb_35 ?_
    refine x_istore_n (ls' := [(1, .int (nI 35)), (0, .ref y)]) dX12_keepsAct_11 (by decide) rfl ?_
    exact Md_shift 665 0 G (by decide) (by rw [shF_0, setA_self rfl]; exact hN)
theorem Md_undo0 {K : xG} {h y : Nat} {G0 G : xHp} {hl : xHl} {r : xRw} {sc : Nat × Nat × Int32} {A : Nat → Nat → Int32} {F : Nat → Int32} {wa sa : Nat → Int64} (hM : MW G0 G y hl r sc A F wa sa) (hpm : F 49 = nI 0) : xCall K mX12_undo 3 0 0 [.ref y] h G (mdQ G0 h y (some (.int (-2))) hl r sc A (upd F 49 (nI 0)) wa sa) := by
  refine x_entry (by decide) (ls := [(0, .ref y)]) rfl (Nat.le_of_ble_eq_true rfl) ?_
  have hN := hM.f49 hpm
  refine x_aload_n dX12_undo_0 0 rfl ?_
  refine x_get (v := .int (nI 0)) dX12_undo_1 fX12_327 (hN.1) rfl ?_
  refine x_ifN_ne (tgt := 10) dX12_undo_4 (by decide) (by omega) (fun c4 => ?_) (fun c4 => ?_)
  · exact absurd c4 (by decide)
  · refine x_bipush dX12_undo_7 kb_m2 ?_
    exact x_iret dX12_undo_9 rfl (xEx_i G hN rfl rfl rfl)
theorem Md_undo1 {K : xG} {h y k : Nat} {G0 G : xHp} {hl : xHl} {r : xRw} {sc : Nat × Nat × Int32} {A : Nat → Nat → Int32} {F : Nat → Int32} {wa sa : Nat → Int64} (hM : MW G0 G y hl r sc A F wa sa) (hpm : F 49 = nI (k + 1)) (hk : k < 20) : xCall K mX12_undo 3 0 0 [.ref y] h G (mdQ G0 h y (some (.int (nI k))) hl (ldF (A 37) r (35 * k) 35) sc A (mF (upd F 49 (nI k)) 1 (35 * k + 35)) wa sa) := by
  refine x_entry (by decide) (ls := [(0, .ref y)]) rfl (Nat.le_of_ble_eq_true rfl) ?_
  have hN := hM.f49 hpm
  refine x_aload_n dX12_undo_0 0 rfl ?_
  refine x_get (v := .int (nI (k + 1))) dX12_undo_1 fX12_327 (hN.1) rfl ?_
  refine x_ifN_ne (tgt := 10) dX12_undo_4 (by decide) (by omega) (fun c4 => ?_) (fun c4 => ?_)
  · refine x_aload_n dX12_undo_10 0 rfl ?_
    refine x_dup dX12_undo_11 rfl ?_
    refine x_get (v := .int (nI (k + 1))) dX12_undo_12 fX12_327 (hN.1) rfl ?_
    refine x_iconst dX12_undo_15 ki_1 ?_
    refine x_isubN dX12_undo_16 (by omega) ?_
    refine x_topi (y := nI k) rfl ?_
    refine x_put (fs' := [.int (F 0), .ref (y + 1), .ref (y + 2), .ref (y + 3), .ref (y + 4), .ref (y + 5), .ref (y + 6), .ref (y + 7), .ref (y + 8), .ref (y + 9), .ref (y + 10), .ref (y + 11), .ref (y + 12), .ref (y + 13), .ref (y + 14), .ref (y + 15), .ref (y + 16), .ref (y + 17), .ref (y + 18), .ref (y + 19), .ref (y + 20), .ref (y + 21), .ref (y + 22), .ref (y + 23), .ref (y + 24), .ref (y + 25), .ref (y + 26), .int (F 27), .int (F 28), .int (F 29), .int (F 30), .int (F 31), .int (F 32), .int (F 33), .int (F 34), .int (F 35), .int (F 36), .ref (y + 27), .ref (y + 28), .ref (y + 29), .ref (y + 30), .ref (y + 31), .ref (y + 32), .ref (y + 33), .ref (y + 34), .ref (y + 35), .ref (y + 36), .ref (y + 37), .ref (y + 38), .int (nI k), .int (F 50), .int (F 51), .int (F 52), .int (F 53), .ref (y + 39), .ref (y + 40), .ref (y + 41), .int (F 57), .int (F 58), .ref (y + 42), .ref (y + 43), .ref (y + 44), .ref (y + 45), .int (F 63), .int (F 64)]) dX12_undo_17 fX12_327 (hN.1) (Nat.le_of_ble_eq_true rfl) rfl rfl rfl ?_
    refine x_geq (G' := xup _ y (modO y (upd F 49 (nI k)))) rfl ?_
    have hM1 := hN.fld (upd F 49 (nI k))
    refine x_pc (pc' := 20) rfl ?_
    refine x_aload_n dX12_undo_20 0 rfl ?_
    refine x_aload_n dX12_undo_21 0 rfl ?_
    refine x_get (v := .int (nI k)) dX12_undo_22 fX12_327 (hM1.1) rfl ?_
    refine x_iconst dX12_undo_25 ki_1 ?_
    refine x_cVe (N := mX12_movesAll) (d' := 2) (mc := 0) (ms := 0) (cb := 0) (sb := 0) (As := [.int (nI k), .int (nI 1)]) (st := []) dX12_undo_26 mX12_movesAll_v lX12_421 rfl rfl (hM1.1) rfl (by decide) (Nat.le_of_ble_eq_true rfl) (Md_mall1 (k := k) hM1 hk) rfl (sf := fun G2 => []) (fun _ => rfl) (fun G2 hN2 => ?_)
    refine x_aload_n dX12_undo_29 0 rfl ?_
    refine x_get (v := .int (nI k)) dX12_undo_30 fX12_327 (hN2.1) rfl ?_
    exact x_iret dX12_undo_33 rfl (xEx_i G2 hN2 rfl rfl rfl)
  · exact absurd c4 (by omega)
theorem Md_begins_l2 {K : xG} {h y : Nat} {G0 : xHp} {hl : xHl} {r : xRw} {sc : Nat × Nat × Int32} {A : Nat → Nat → Int32} {F : Nat → Int32} {wa sa : Nat → Int64} : ∀ (i q : Nat) (G1 : xHp), q + i = 7 → MW G0 G1 y hl (bg2 (bg1 (upd (layF r (nF (hl 2)) 1 4) 0 (nI 0)) 4) q) sc A F wa sa → xV K mX12_begins 1 0 0 h G1 61 [(1, .int (nI q)), (0, .ref y)] [] (mdQ G0 h y none hl (clearR hl) sc A F wa sa) := by
  intro i
  induction i with
  | zero =>
    intro q G1 hi hN
    have hi0 : q = 7 := by omega
    subst hi0
    refine x_iload_n dX12_begins_61 0 rfl ?_
    refine x_bipush dX12_begins_62 kb_7 ?_
    refine x_icmpN_ge (tgt := 87) dX12_begins_64 (by decide) (by omega) (by omega) (fun c64 => ?_) (fun c64 => ?_)
    · exact x_vret dX12_begins_87 rfl (xEx_i G1 (hN.row bg_clear) rfl rfl rfl)
    · exact absurd c64 (by omega)
  | succ i ih =>
    intro q G1 hi hN
    refine x_iload_n dX12_begins_61 0 rfl ?_
    refine x_bipush dX12_begins_62 kb_7 ?_
    refine x_icmpN_ge (tgt := 87) dX12_begins_64 (by decide) (by omega) (by omega) (fun c64 => ?_) (fun c64 => ?_)
    · exact absurd c64 (by omega)
    · refine x_aload_n dX12_begins_67 1 rfl ?_
      refine x_get (v := .ref (y + 13)) dX12_begins_68 fX12_46 (hN.1) rfl ?_
      refine x_iload_n dX12_begins_71 0 rfl ?_
      refine x_iconst dX12_begins_72 ki_0 ?_
      refine x_iastN (n := 7) (f := blk (bg2 (bg1 (upd (layF r (nF (hl 2)) 1 4) 0 (nI 0)) 4) q) 21 7) dX12_begins_73 (hN.c13) (by omega) (by decide) ?_
      have hM1 := hN.s13 q (nI 0) (by omega)
      refine x_aload_n dX12_begins_74 1 rfl ?_
      refine x_pc (pc' := 75) rfl ?_
      refine x_get (v := .ref (y + 14)) dX12_begins_75 fX12_49 (hM1.1) rfl ?_
      refine x_iload_n dX12_begins_78 0 rfl ?_
      refine x_iconst dX12_begins_79 ki_m1 ?_
      refine x_iastN (n := 7) (f := blk (upd (bg2 (bg1 (upd (layF r (nF (hl 2)) 1 4) 0 (nI 0)) 4) q) (21 + q) (nI 0)) 28 7) dX12_begins_80 (hM1.c14) (by omega) (by decide) ?_
      have hM2 := hM1.s14 q (-1) (by omega)
      refine x_iinc (v := nI (q + 1)) (ls' := [(1, .int (nI (q + 1))), (0, .ref y)]) dX12_begins_81 0 rfl (nIs _) (by decide) rfl ?_
      refine x_goto (tgt := 61) dX12_begins_84 (by decide) ?_
      exact ih (q + 1) _ (by omega) (by rw [← bg2_s (by omega)]; exact hM2)
theorem Md_begins_l1 {K : xG} {h y : Nat} {G0 : xHp} {hl : xHl} {r : xRw} {sc : Nat × Nat × Int32} {A : Nat → Nat → Int32} {F : Nat → Int32} {wa sa : Nat → Int64} : ∀ (i q : Nat) (G1 : xHp), q + i = 4 → MW G0 G1 y hl (bg1 (upd (layF r (nF (hl 2)) 1 4) 0 (nI 0)) q) sc A F wa sa → xV K mX12_begins 1 0 0 h G1 20 [(1, .int (nI q)), (0, .ref y)] [] (mdQ G0 h y none hl (clearR hl) sc A F wa sa) := by
  intro i
  induction i with
  | zero =>
    intro q G1 hi hN
    have hi0 : q = 4 := by omega
    subst hi0
    refine x_iload_n dX12_begins_20 0 rfl ?_
    refine x_iconst dX12_begins_21 ki_4 ?_
    refine x_icmpN_ge (tgt := 59) dX12_begins_22 (by decide) (by omega) (by omega) (fun c22 => ?_) (fun c22 => ?_)
    · refine x_iconst dX12_begins_59 ki_0 ?_
      refine x_istore_n (ls' := [(1, .int (nI 0)), (0, .ref y)]) dX12_begins_60 (by decide) rfl ?_
      exact Md_begins_l2 7 0 G1 (by decide) (by rw [bg2_0]; exact hN)
    · exact absurd c22 (by omega)
  | succ i ih =>
    intro q G1 hi hN
    refine x_iload_n dX12_begins_20 0 rfl ?_
    refine x_iconst dX12_begins_21 ki_4 ?_
    refine x_icmpN_ge (tgt := 59) dX12_begins_22 (by decide) (by omega) (by omega) (fun c22 => ?_) (fun c22 => ?_)
    · exact absurd c22 (by omega)
    · refine x_aload_n dX12_begins_25 1 rfl ?_
      refine x_get (v := .ref (y + 5)) dX12_begins_26 fX12_22 (hN.1) rfl ?_
      refine x_iload_n dX12_begins_29 0 rfl ?_
      refine x_iconst dX12_begins_30 ki_m1 ?_
      refine x_iastN (n := 4) (f := blk (bg1 (upd (layF r (nF (hl 2)) 1 4) 0 (nI 0)) q) 5 4) dX12_begins_31 (hN.c5) (by omega) (by decide) ?_
      have hM1 := hN.s5 q (-1) (by omega)
      refine x_aload_n dX12_begins_32 1 rfl ?_
      refine x_pc (pc' := 33) rfl ?_
      refine x_get (v := .ref (y + 6)) dX12_begins_33 fX12_25 (hM1.1) rfl ?_
      refine x_iload_n dX12_begins_36 0 rfl ?_
      refine x_iconst dX12_begins_37 ki_0 ?_
      refine x_iastN (n := 4) (f := blk (upd (bg1 (upd (layF r (nF (hl 2)) 1 4) 0 (nI 0)) q) (5 + q) (-1)) 9 4) dX12_begins_38 (hM1.c6) (by omega) (by decide) ?_
      have hM2 := hM1.s6 q (nI 0) (by omega)
      refine x_aload_n dX12_begins_39 1 rfl ?_
      refine x_get (v := .ref (y + 7)) dX12_begins_40 fX12_28 (hM2.1) rfl ?_
      refine x_iload_n dX12_begins_43 0 rfl ?_
      refine x_iconst dX12_begins_44 ki_0 ?_
      refine x_iastN (n := 4) (f := blk (upd (upd (bg1 (upd (layF r (nF (hl 2)) 1 4) 0 (nI 0)) q) (5 + q) (-1)) (9 + q) (nI 0)) 13 4) dX12_begins_45 (hM2.c7) (by omega) (by decide) ?_
      have hM3 := hM2.s7 q (nI 0) (by omega)
      refine x_aload_n dX12_begins_46 1 rfl ?_
      refine x_pc (pc' := 47) rfl ?_
      refine x_get (v := .ref (y + 8)) dX12_begins_47 fX12_31 (hM3.1) rfl ?_
      refine x_iload_n dX12_begins_50 0 rfl ?_
      refine x_iconst dX12_begins_51 ki_0 ?_
      refine x_iastN (n := 4) (f := blk (upd (upd (upd (bg1 (upd (layF r (nF (hl 2)) 1 4) 0 (nI 0)) q) (5 + q) (-1)) (9 + q) (nI 0)) (13 + q) (nI 0)) 17 4) dX12_begins_52 (hM3.c8) (by omega) (by decide) ?_
      have hM4 := hM3.s8 q (nI 0) (by omega)
      refine x_iinc (v := nI (q + 1)) (ls' := [(1, .int (nI (q + 1))), (0, .ref y)]) dX12_begins_53 0 rfl (nIs _) (by decide) rfl ?_
      refine x_goto (tgt := 20) dX12_begins_56 (by decide) ?_
      exact ih (q + 1) _ (by omega) (by rw [← bg1_s (by omega)]; exact hM4)
theorem Md_begins {K : xG} {h y : Nat} {G0 G : xHp} {hl : xHl} {r : xRw} {sc : Nat × Nat × Int32} {A : Nat → Nat → Int32} {F : Nat → Int32} {wa sa : Nat → Int64} (hM : MW G0 G y hl r sc A F wa sa) : xCall K mX12_begins 1 0 0 [.ref y] h G (mdQ G0 h y none hl (clearR hl) sc A F wa sa) := by
  refine x_entry (by decide) (ls := [(0, .ref y)]) rfl (Nat.le_of_ble_eq_true rfl) ?_
  refine x_aload_n dX12_begins_0 0 rfl ?_
  refine x_get (v := .ref (y + 18)) dX12_begins_1 fX12_61 (hM.1) rfl ?_
  refine x_aload_n dX12_begins_4 0 rfl ?_
  refine x_get (v := .ref (y + 3)) dX12_begins_5 fX12_16 (hM.1) rfl ?_
  refine x_cS (N := mX12_copies) (d' := 0) (mc := 0) (ms := 0) (cb := 0) (sb := 0) (As := [.ref (y + 18), .ref (y + 3)]) (st := []) dX12_begins_8 mX12_copies_s lX12_317 rfl (by decide) (Nat.le_of_ble_eq_true rfl) (Md_copies (a := y + 18) (b := y + 3) (n := 4) hM.c18 hM.c3 (by omega) (by decide)) rfl (st1 := []) rfl ?_
  refine x_gen (P := fun G' => MW G0 G' y hl (layF r (nF (hl 2)) 1 4) sc A F wa sa) (hM.cp3 (nF (hl 2))) (fun G1 hN1 => ?_)
  refine x_aload_n dX12_begins_11 0 rfl ?_
  refine x_get (v := .ref (y + 1)) dX12_begins_12 fX12_9 (hN1.1) rfl ?_
  refine x_iconst dX12_begins_15 ki_5 ?_
  refine x_iconst dX12_begins_16 ki_0 ?_
  refine x_pc (pc' := 17) rfl ?_
  refine x_iastN (n := 9) (f := scal hl (layF r (nF (hl 2)) 1 4) sc) dX12_begins_17 (hN1.c1) (by decide) (by decide) ?_
  have hM1 := hN1.s1m (nI 0)
  refine x_iconst dX12_begins_18 ki_0 ?_
  refine x_istore_n (ls' := [(1, .int (nI 0)), (0, .ref y)]) dX12_begins_19 (by decide) rfl ?_
  exact Md_begins_l1 4 0 _ (by decide) (by rw [bg1_0]; exact hM1)
