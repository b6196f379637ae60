theorem Md_put {K : xG} {h y : Nat} {G0 G : xHp} {hl : xHl} {r : xRw} {sc : Nat × Nat × Int32} {A : Nat → Nat → Int32} {F : Nat → Int32} {wa sa : Nat → Int64} {tn : Nat} {v : Int32} (hM : MW G0 G y hl r sc A (upd F 27 (nI tn)) wa sa) (htn : tn + 4 ≤ 400) : xCall K mX12_put 0 0 0 [.ref y, .int v] h G (mdQ G0 h y none hl r sc (setA A 27 (bpF (A 27) tn v)) (upd F 27 (nI (tn + 4))) wa sa) := by
  refine x_entry (by decide) (ls := [(0, .ref y), (1, .int v)]) rfl (Nat.le_of_ble_eq_true rfl) ?_
  refine x_bipush dX12_put_0 kb_24 ?_
  refine x_istore_n (ls' := [(2, .int (nI 24)), (0, .ref y), (1, .int v)]) dX12_put_2 (by decide) rfl ?_
  refine x_iload_n dX12_put_3 0 rfl ?_
  refine x_ifN_lt (tgt := 36) dX12_put_4 (by decide) (by omega) (fun c4 => ?_) (fun c4 => ?_)
  · exact absurd c4 (by decide)
  · refine x_aload_n dX12_put_7 1 rfl ?_
    refine x_get (v := .ref (y + 27)) dX12_put_8 fX12_92 (hM.1) rfl ?_
    refine x_aload_n dX12_put_11 1 rfl ?_
    refine x_get (v := .int (nI tn)) dX12_put_12 fX12_159 (hM.1) rfl ?_
    refine x_iload_n dX12_put_15 2 rfl ?_
    refine x_pc (pc' := 16) rfl ?_
    refine x_iload_n dX12_put_16 0 rfl ?_
    refine x_ishr dX12_put_17 ?_
    refine x_i2b dX12_put_18 ?_
    refine x_bastN (n := 400) (f := A 27) dX12_put_19 (hM.c27) (by omega) (by decide) ?_
    have hM1 := hM.a27 (upd (A 27) tn (vp_nar .byte ((v >>> ((nI 24) &&& 31)).toInt8.toInt32)))
    refine x_aload_n dX12_put_20 1 rfl ?_
    refine x_dup dX12_put_21 rfl ?_
    refine x_get (v := .int (nI tn)) dX12_put_22 fX12_159 (hM1.1) rfl ?_
    refine x_iconst dX12_put_25 ki_1 ?_
    refine x_iaddN dX12_put_26 ?_
    refine x_put (fs' := [.int (F 0), .ref (y + 1), .ref (y + 2), .ref (y + 3), .ref (y + 4), .ref (y + 5), .ref (y + 6), .ref (y + 7), .ref (y + 8), .ref (y + 9), .ref (y + 10), .ref (y + 11), .ref (y + 12), .ref (y + 13), .ref (y + 14), .ref (y + 15), .ref (y + 16), .ref (y + 17), .ref (y + 18), .ref (y + 19), .ref (y + 20), .ref (y + 21), .ref (y + 22), .ref (y + 23), .ref (y + 24), .ref (y + 25), .ref (y + 26), .int (nI (tn + 1)), .int (F 28), .int (F 29), .int (F 30), .int (F 31), .int (F 32), .int (F 33), .int (F 34), .int (F 35), .int (F 36), .ref (y + 27), .ref (y + 28), .ref (y + 29), .ref (y + 30), .ref (y + 31), .ref (y + 32), .ref (y + 33), .ref (y + 34), .ref (y + 35), .ref (y + 36), .ref (y + 37), .ref (y + 38), .int (F 49), .int (F 50), .int (F 51), .int (F 52), .int (F 53), .ref (y + 39), .ref (y + 40), .ref (y + 41), .int (F 57), .int (F 58), .ref (y + 42), .ref (y + 43), .ref (y + 44), .ref (y + 45), .int (F 63), .int (F 64)]) dX12_put_27 fX12_159 (hM1.1) (Nat.le_of_ble_eq_true rfl) rfl rfl rfl ?_
    refine x_geq (G' := xup _ y (modO y (upd F 27 (nI (tn + 1))))) rfl ?_
    have hM2 := hM1.fld (upd F 27 (nI (tn + 1)))
    refine x_pc (pc' := 30) rfl ?_
    refine x_iinc (v := nI 16) (ls' := [(2, .int (nI 16)), (0, .ref y), (1, .int v)]) dX12_put_30 0 rfl (by decide) (by decide) rfl ?_
    refine x_goto (tgt := 3) dX12_put_33 (by decide) ?_
    refine x_iload_n dX12_put_3 0 rfl ?_
    refine x_ifN_lt (tgt := 36) dX12_put_4 (by decide) (by omega) (fun c4 => ?_) (fun c4 => ?_)
    · exact absurd c4 (by decide)
    · refine x_aload_n dX12_put_7 1 rfl ?_
      refine x_get (v := .ref (y + 27)) dX12_put_8 fX12_92 (hM2.1) rfl ?_
      refine x_aload_n dX12_put_11 1 rfl ?_
      refine x_get (v := .int (nI (tn + 1))) dX12_put_12 fX12_159 (hM2.1) rfl ?_
      refine x_iload_n dX12_put_15 2 rfl ?_
      refine x_iload_n dX12_put_16 0 rfl ?_
      refine x_pc (pc' := 17) rfl ?_
      refine x_ishr dX12_put_17 ?_
      refine x_i2b dX12_put_18 ?_
      refine x_bastN (n := 400) (f := (upd (A 27) tn (vp_nar .byte ((v >>> ((nI 24) &&& 31)).toInt8.toInt32)))) dX12_put_19 (hM2.c27) (by omega) (by decide) ?_
      have hM3 := hM2.a27 (upd (upd (A 27) tn (vp_nar .byte ((v >>> ((nI 24) &&& 31)).toInt8.toInt32))) (tn + 1) (vp_nar .byte ((v >>> ((nI 16) &&& 31)).toInt8.toInt32)))
      refine x_aload_n dX12_put_20 1 rfl ?_
      refine x_dup dX12_put_21 rfl ?_
      refine x_get (v := .int (nI (tn + 1))) dX12_put_22 fX12_159 (hM3.1) rfl ?_
      refine x_iconst dX12_put_25 ki_1 ?_
      refine x_iaddN dX12_put_26 ?_
      refine x_put (fs' := [.int (F 0), .ref (y + 1), .ref (y + 2), .ref (y + 3), .ref (y + 4), .ref (y + 5), .ref (y + 6), .ref (y + 7), .ref (y + 8), .ref (y + 9), .ref (y + 10), .ref (y + 11), .ref (y + 12), .ref (y + 13), .ref (y + 14), .ref (y + 15), .ref (y + 16), .ref (y + 17), .ref (y + 18), .ref (y + 19), .ref (y + 20), .ref (y + 21), .ref (y + 22), .ref (y + 23), .ref (y + 24), .ref (y + 25), .ref (y + 26), .int (nI ((tn + 1) + 1)), .int (F 28), .int (F 29), .int (F 30), .int (F 31), .int (F 32), .int (F 33), .int (F 34), .int (F 35), .int (F 36), .ref (y + 27), .ref (y + 28), .ref (y + 29), .ref (y + 30), .ref (y + 31), .ref (y + 32), .ref (y + 33), .ref (y + 34), .ref (y + 35), .ref (y + 36), .ref (y + 37), .ref (y + 38), .int (F 49), .int (F 50), .int (F 51), .int (F 52), .int (F 53), .ref (y + 39), .ref (y + 40), .ref (y + 41), .int (F 57), .int (F 58), .ref (y + 42), .ref (y + 43), .ref (y + 44), .ref (y + 45), .int (F 63), .int (F 64)]) dX12_put_27 fX12_159 (hM3.1) (Nat.le_of_ble_eq_true rfl) rfl rfl rfl ?_
      refine x_geq (G' := xup _ y (modO y (upd F 27 (nI ((tn + 1) + 1))))) rfl ?_
      have hM4 := hM3.fld (upd F 27 (nI ((tn + 1) + 1)))
      refine x_iinc (v := nI 8) (ls' := [(2, .int (nI 8)), (0, .ref y), (1, .int v)]) dX12_put_30 0 rfl (by decide) (by decide) rfl ?_
      refine x_pc (pc' := 33) rfl ?_
      refine x_goto (tgt := 3) dX12_put_33 (by decide) ?_
      refine x_iload_n dX12_put_3 0 rfl ?_
      refine x_ifN_lt (tgt := 36) dX12_put_4 (by decide) (by omega) (fun c4 => ?_) (fun c4 => ?_)
      · exact absurd c4 (by decide)
      · refine x_aload_n dX12_put_7 1 rfl ?_
        refine x_get (v := .ref (y + 27)) dX12_put_8 fX12_92 (hM4.1) rfl ?_
        refine x_aload_n dX12_put_11 1 rfl ?_
        refine x_get (v := .int (nI ((tn + 1) + 1))) dX12_put_12 fX12_159 (hM4.1) rfl ?_
        refine x_iload_n dX12_put_15 2 rfl ?_
        refine x_iload_n dX12_put_16 0 rfl ?_
        refine x_ishr dX12_put_17 ?_
        refine x_pc (pc' := 18) rfl ?_
        refine x_i2b dX12_put_18 ?_
        refine x_bastN (n := 400) (f := (upd (upd (A 27) tn (vp_nar .byte ((v >>> ((nI 24) &&& 31)).toInt8.toInt32))) (tn + 1) (vp_nar .byte ((v >>> ((nI 16) &&& 31)).toInt8.toInt32)))) dX12_put_19 (hM4.c27) (by omega) (by decide) ?_
        have hM5 := hM4.a27 (upd (upd (upd (A 27) tn (vp_nar .byte ((v >>> ((nI 24) &&& 31)).toInt8.toInt32))) (tn + 1) (vp_nar .byte ((v >>> ((nI 16) &&& 31)).toInt8.toInt32))) ((tn + 1) + 1) (vp_nar .byte ((v >>> ((nI 8) &&& 31)).toInt8.toInt32)))
        refine x_aload_n dX12_put_20 1 rfl ?_
        refine x_dup dX12_put_21 rfl ?_
        refine x_get (v := .int (nI ((tn + 1) + 1))) dX12_put_22 fX12_159 (hM5.1) rfl ?_
        refine x_iconst dX12_put_25 ki_1 ?_
        refine x_iaddN dX12_put_26 ?_
        refine x_put (fs' := [.int (F 0), .ref (y + 1), .ref (y + 2), .ref (y + 3), .ref (y + 4), .ref (y + 5), .ref (y + 6), .ref (y + 7), .ref (y + 8), .ref (y + 9), .ref (y + 10), .ref (y + 11), .ref (y + 12), .ref (y + 13), .ref (y + 14), .ref (y + 15), .ref (y + 16), .ref (y + 17), .ref (y + 18), .ref (y + 19), .ref (y + 20), .ref (y + 21), .ref (y + 22), .ref (y + 23), .ref (y + 24), .ref (y + 25), .ref (y + 26), .int (nI (((tn + 1) + 1) + 1)), .int (F 28), .int (F 29), .int (F 30), .int (F 31), .int (F 32), .int (F 33), .int (F 34), .int (F 35), .int (F 36), .ref (y + 27), .ref (y + 28), .ref (y + 29), .ref (y + 30), .ref (y + 31), .ref (y + 32), .ref (y + 33), .ref (y + 34), .ref (y + 35), .ref (y + 36), .ref (y + 37), .ref (y + 38), .int (F 49), .int (F 50), .int (F 51), .int (F 52), .int (F 53), .ref (y + 39), .ref (y + 40), .ref (y + 41), .int (F 57), .int (F 58), .ref (y + 42), .ref (y + 43), .ref (y + 44), .ref (y + 45), .int (F 63), .int (F 64)]) dX12_put_27 fX12_159 (hM5.1) (Nat.le_of_ble_eq_true rfl) rfl rfl rfl ?_
        refine x_geq (G' := xup _ y (modO y (upd F 27 (nI (((tn + 1) + 1) + 1))))) rfl ?_
        have hM6 := hM5.fld (upd F 27 (nI (((tn + 1) + 1) + 1)))
        refine x_iinc (v := nI 0) (ls' := [(2, .int (nI 0)), (0, .ref y), (1, .int v)]) dX12_put_30 0 rfl (by decide) (by decide) rfl ?_
        refine x_goto (tgt := 3) dX12_put_33 (by decide) ?_
        refine x_pc (pc' := 3) rfl ?_
        refine x_iload_n dX12_put_3 0 rfl ?_
        refine x_ifN_lt (tgt := 36) dX12_put_4 (by decide) (by omega) (fun c4 => ?_) (fun c4 => ?_)
        · exact absurd c4 (by decide)
        · refine x_aload_n dX12_put_7 1 rfl ?_
          refine x_get (v := .ref (y + 27)) dX12_put_8 fX12_92 (hM6.1) rfl ?_
          refine x_aload_n dX12_put_11 1 rfl ?_
          refine x_get (v := .int (nI (((tn + 1) + 1) + 1))) dX12_put_12 fX12_159 (hM6.1) rfl ?_
          refine x_iload_n dX12_put_15 2 rfl ?_
          refine x_iload_n dX12_put_16 0 rfl ?_
          refine x_ishr dX12_put_17 ?_
          refine x_i2b dX12_put_18 ?_
          refine x_pc (pc' := 19) rfl ?_
          refine x_bastN (n := 400) (f := (upd (upd (upd (A 27) tn (vp_nar .byte ((v >>> ((nI 24) &&& 31)).toInt8.toInt32))) (tn + 1) (vp_nar .byte ((v >>> ((nI 16) &&& 31)).toInt8.toInt32))) ((tn + 1) + 1) (vp_nar .byte ((v >>> ((nI 8) &&& 31)).toInt8.toInt32)))) dX12_put_19 (hM6.c27) (by omega) (by decide) ?_
          have hM7 := hM6.a27 (upd (upd (upd (upd (A 27) tn (vp_nar .byte ((v >>> ((nI 24) &&& 31)).toInt8.toInt32))) (tn + 1) (vp_nar .byte ((v >>> ((nI 16) &&& 31)).toInt8.toInt32))) ((tn + 1) + 1) (vp_nar .byte ((v >>> ((nI 8) &&& 31)).toInt8.toInt32))) (((tn + 1) + 1) + 1) (vp_nar .byte ((v >>> ((nI 0) &&& 31)).toInt8.toInt32)))
          refine x_aload_n dX12_put_20 1 rfl ?_
          refine x_dup dX12_put_21 rfl ?_
          refine x_get (v := .int (nI (((tn + 1) + 1) + 1))) dX12_put_22 fX12_159 (hM7.1) rfl ?_
          refine x_iconst dX12_put_25 ki_1 ?_
          refine x_iaddN dX12_put_26 ?_
          refine x_put (fs' := [.int (F 0), .ref (y + 1), .ref (y + 2), .ref (y + 3), .ref (y + 4), .ref (y + 5), .ref (y + 6), .ref (y + 7), .ref (y + 8), .ref (y + 9), .ref (y + 10), .ref (y + 11), .ref (y + 12), .ref (y + 13), .ref (y + 14), .ref (y + 15), .ref (y + 16), .ref (y + 17), .ref (y + 18), .ref (y + 19), .ref (y + 20), .ref (y + 21), .ref (y + 22), .ref (y + 23), .ref (y + 24), .ref (y + 25), .ref (y + 26), .int (nI ((((tn + 1) + 1) + 1) + 1)), .int (F 28), .int (F 29), .int (F 30), .int (F 31), .int (F 32), .int (F 33), .int (F 34), .int (F 35), .int (F 36), .ref (y + 27), .ref (y + 28), .ref (y + 29), .ref (y + 30), .ref (y + 31), .ref (y + 32), .ref (y + 33), .ref (y + 34), .ref (y + 35), .ref (y + 36), .ref (y + 37), .ref (y + 38), .int (F 49), .int (F 50), .int (F 51), .int (F 52), .int (F 53), .ref (y + 39), .ref (y + 40), .ref (y + 41), .int (F 57), .int (F 58), .ref (y + 42), .ref (y + 43), .ref (y + 44), .ref (y + 45), .int (F 63), .int (F 64)]) dX12_put_27 fX12_159 (hM7.1) (Nat.le_of_ble_eq_true rfl) rfl rfl rfl ?_
          refine x_geq (G' := xup _ y (modO y (upd F 27 (nI ((((tn + 1) + 1) + 1) + 1))))) rfl ?_
          have hM8 := hM7.fld (upd F 27 (nI ((((tn + 1) + 1) + 1) + 1)))
          refine x_iinc (v := (-8)) (ls' := [(2, .int (-8)), (0, .ref y), (1, .int v)]) dX12_put_30 0 rfl (by decide) (by decide) rfl ?_
          refine x_goto (tgt := 3) dX12_put_33 (by decide) ?_
          refine x_iload_n dX12_put_3 0 rfl ?_
          refine x_pc (pc' := 4) rfl ?_
          refine x_if_lt (tgt := 36) dX12_put_4 (by decide) (fun c4 => ?_) (fun c4 => ?_)
          · exact x_vret dX12_put_36 rfl (xEx_i _ (by have e := hM8; rw [setA_up, setA_up, setA_up] at e; exact e) rfl rfl rfl)
          · exact absurd c4 (by decide)
theorem Md_feed_n {K : xG} {h y : Nat} {G0 G : xHp} {hl : xHl} {r : xRw} {sc : Nat × Nat × Int32} {A : Nat → Nat → Int32} {F : Nat → Int32} {wa sa : Nat → Int64} {tn : Nat} {a b c d e : Int32} (hM : MW G0 G y hl r sc A F wa sa) (h27 : F 27 = nI tn) (htn : tn ≤ 400) (hn : 400 < tn + 20) : xCall K mX12_feed 1 0 0 [.ref y, .int a, .int b, .int c, .int d, .int e] h G (xRet (some (.int (-1))) h G) := by
  refine x_entry (by decide) (ls := [(0, .ref y), (1, .int a), (2, .int b), (3, .int c), (4, .int d), (5, .int e)]) rfl (Nat.le_of_ble_eq_true rfl) ?_
  have hN : MW G0 G y hl r sc A (upd F 27 (nI tn)) wa sa := by rw [f_at h27]; exact hM
  refine x_aload_n dX12_feed_0 0 rfl ?_
  refine x_get (v := .int (nI tn)) dX12_feed_1 fX12_159 (hN.1) rfl ?_
  refine x_bipush dX12_feed_4 kb_20 ?_
  refine x_iaddN dX12_feed_6 ?_
  refine x_sipush dX12_feed_7 ks_400 ?_
  refine x_icmpN_le (tgt := 15) dX12_feed_10 (by decide) (by omega) (by omega) (fun c10 => ?_) (fun c10 => ?_)
  · exact absurd c10 (by omega)
  · refine x_iconst dX12_feed_13 ki_m1 ?_
    exact x_iret dX12_feed_14 rfl (xRet_i)
theorem Md_feed_y {K : xG} {h y : Nat} {G0 G : xHp} {hl : xHl} {r : xRw} {sc : Nat × Nat × Int32} {A : Nat → Nat → Int32} {F : Nat → Int32} {wa sa : Nat → Int64} {tn : Nat} {a b c d e : Int32} (hM : MW G0 G y hl r sc A F wa sa) (h27 : F 27 = nI tn) (hn : tn + 20 ≤ 400) : xCall K mX12_feed 1 0 0 [.ref y, .int a, .int b, .int c, .int d, .int e] h G (mdQ G0 h y (some (.int (nI (tn + 20)))) hl r sc (setA A 27 (bpF (bpF (bpF (bpF (bpF (A 27) (tn + 0) a) (tn + 4) b) (tn + 8) c) (tn + 12) d) (tn + 16) e)) (upd F 27 (nI (tn + 20))) wa sa) := by
  refine x_entry (by decide) (ls := [(0, .ref y), (1, .int a), (2, .int b), (3, .int c), (4, .int d), (5, .int e)]) rfl (Nat.le_of_ble_eq_true rfl) ?_
  have hN : MW G0 G y hl r sc A (upd F 27 (nI (tn + 0))) wa sa := by rw [show tn + 0 = tn from rfl, f_at h27]; exact hM
  refine x_aload_n dX12_feed_0 0 rfl ?_
  refine x_get (v := .int (nI tn)) dX12_feed_1 fX12_159 (hN.1) rfl ?_
  refine x_bipush dX12_feed_4 kb_20 ?_
  refine x_iaddN dX12_feed_6 ?_
  refine x_sipush dX12_feed_7 ks_400 ?_
  refine x_icmpN_le (tgt := 15) dX12_feed_10 (by decide) (by omega) (by omega) (fun c10 => ?_) (fun c10 => ?_)
  · refine x_aload_n dX12_feed_15 0 rfl ?_
    refine x_iload_n dX12_feed_16 1 rfl ?_
    refine x_cVe (N := mX12_put) (d' := 0) (mc := 0) (ms := 0) (cb := 0) (sb := 0) (As := [.int a]) (st := []) dX12_feed_17 mX12_put_v lX12_162 rfl rfl (hN.1) rfl (by decide) (Nat.le_of_ble_eq_true rfl) (Md_put (tn := tn + 0) hN (by omega)) rfl (sf := fun G1 => []) (fun _ => rfl) (fun G1 hq1 => ?_)
    have hN1 : MW G0 G1 y hl r sc (setA A 27 (bpF (A 27) (tn + 0) a)) (upd F 27 (nI (tn + 4))) wa sa := by have e1 := hq1; exact e1
    refine x_pc (pc' := 20) rfl ?_
    refine x_aload_n dX12_feed_20 0 rfl ?_
    refine x_iload_n dX12_feed_21 2 rfl ?_
    refine x_cVe (N := mX12_put) (d' := 0) (mc := 0) (ms := 0) (cb := 0) (sb := 0) (As := [.int b]) (st := []) dX12_feed_22 mX12_put_v lX12_162 rfl rfl (hN1.1) rfl (by decide) (Nat.le_of_ble_eq_true rfl) (Md_put (tn := tn + 4) hN1 (by omega)) rfl (sf := fun G2 => []) (fun _ => rfl) (fun G2 hq2 => ?_)
    have hN2 : MW G0 G2 y hl r sc (setA A 27 (bpF (bpF (A 27) (tn + 0) a) (tn + 4) b)) (upd F 27 (nI (tn + 8))) wa sa := by have e1 := hq2; rw [setA_up] at e1; exact e1
    refine x_aload_n dX12_feed_25 0 rfl ?_
    refine x_iload_n dX12_feed_26 3 rfl ?_
    refine x_cVe (N := mX12_put) (d' := 0) (mc := 0) (ms := 0) (cb := 0) (sb := 0) (As := [.int c]) (st := []) dX12_feed_27 mX12_put_v lX12_162 rfl rfl (hN2.1) rfl (by decide) (Nat.le_of_ble_eq_true rfl) (Md_put (tn := tn + 8) hN2 (by omega)) rfl (sf := fun G3 => []) (fun _ => rfl) (fun G3 hq3 => ?_)
    have hN3 : MW G0 G3 y hl r sc (setA A 27 (bpF (bpF (bpF (A 27) (tn + 0) a) (tn + 4) b) (tn + 8) c)) (upd F 27 (nI (tn + 12))) wa sa := by have e1 := hq3; rw [setA_up] at e1; exact e1
    refine x_aload_n dX12_feed_30 0 rfl ?_
    refine x_iload dX12_feed_31 4 rfl ?_
    refine x_cVe (N := mX12_put) (d' := 0) (mc := 0) (ms := 0) (cb := 0) (sb := 0) (As := [.int d]) (st := []) dX12_feed_33 mX12_put_v lX12_162 rfl rfl (hN3.1) rfl (by decide) (Nat.le_of_ble_eq_true rfl) (Md_put (tn := tn + 12) hN3 (by omega)) rfl (sf := fun G4 => []) (fun _ => rfl) (fun G4 hq4 => ?_)
    have hN4 : MW G0 G4 y hl r sc (setA A 27 (bpF (bpF (bpF (bpF (A 27) (tn + 0) a) (tn + 4) b) (tn + 8) c) (tn + 12) d)) (upd F 27 (nI (tn + 16))) wa sa := by have e1 := hq4; rw [setA_up] at e1; exact e1
    refine x_aload_n dX12_feed_36 0 rfl ?_
    refine x_pc (pc' := 37) rfl ?_
    refine x_iload dX12_feed_37 5 rfl ?_
    refine x_cVe (N := mX12_put) (d' := 0) (mc := 0) (ms := 0) (cb := 0) (sb := 0) (As := [.int e]) (st := []) dX12_feed_39 mX12_put_v lX12_162 rfl rfl (hN4.1) rfl (by decide) (Nat.le_of_ble_eq_true rfl) (Md_put (tn := tn + 16) hN4 (by omega)) rfl (sf := fun G5 => []) (fun _ => rfl) (fun G5 hq5 => ?_)
    have hN5 : MW G0 G5 y hl r sc (setA A 27 (bpF (bpF (bpF (bpF (bpF (A 27) (tn + 0) a) (tn + 4) b) (tn + 8) c) (tn + 12) d) (tn + 16) e)) (upd F 27 (nI (tn + 20))) wa sa := by have e1 := hq5; rw [setA_up] at e1; exact e1
    refine x_aload_n dX12_feed_42 0 rfl ?_
    refine x_get (v := .int (nI (tn + 20))) dX12_feed_43 fX12_159 (hN5.1) rfl ?_
    exact x_iret dX12_feed_46 rfl (xEx_i G5 hN5 rfl rfl rfl)
  · exact absurd c10 (by omega)
