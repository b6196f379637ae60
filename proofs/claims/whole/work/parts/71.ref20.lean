theorem Md_force_n {K : xG} {h y : Nat} {G0 G : xHp} {hl : xHl} {r : xRw} {sc : Nat × Nat × Int32} {A : Nat → Nat → Int32} {F : Nat → Int32} {wa sa : Nat → Int64} {rc : Nat} {v : Int32} (hM : MW G0 G y hl r sc A F wa sa) (hO : HallOk hl) (h31 : F 31 = nI rc) (hrc : rc ≤ 6) (hn : ¬ (v = -1 ∨ inR v rc = true)) : xCall K mX12_force 1 0 0 [.ref y, .int v] h G (xRet (some (.int (-2))) h G) := by
  refine x_entry (by decide) (ls := [(0, .ref y), (1, .int v)]) rfl (Nat.le_of_ble_eq_true rfl) ?_
  have hB := hM.hB
  obtain ⟨o2, o3, o4, o5, o6, o7, o8, o9⟩ := id hO
  have hN : MW G0 G y hl r sc A (upd F 31 (nI rc)) wa sa := by rw [f_at h31]; exact hM
  refine x_iload_n dX12_force_0 1 rfl ?_
  refine x_i2l dX12_force_1 ?_
  refine x_ldc2 dX12_force_2 cX12_346 ?_
  refine x_aload_n dX12_force_5 0 rfl ?_
  refine x_get (v := .int (nI rc)) dX12_force_6 fX12_340 (hN.1) rfl ?_
  refine x_iconst dX12_force_9 ki_1 ?_
  refine x_isub dX12_force_10 ?_
  refine x_i2l dX12_force_11 ?_
  refine x_cS (N := mX12_in) (d' := 0) (mc := 0) (ms := 0) (cb := 0) (sb := 0) (As := [.long v.toInt64, .long (-1 : Int64), .long (((nI rc) - (nI 1)).toInt64)]) (st := []) dX12_force_12 mX12_in_s lX12_155 rfl (by decide) (Nat.le_of_ble_eq_true rfl) (Md_in) rfl (st1 := [.int (bI (decide ((-1 : Int64) ≤ v.toInt64 ∧ v.toInt64 ≤ ((nI rc) - (nI 1)).toInt64)))]) rfl ?_
  refine x_pc (pc' := 15) rfl ?_
  refine x_ifB_ne (tgt := 21) dX12_force_15 (by decide) (fun c15 => ?_) (fun c15 => ?_)
  · exact absurd c15 (by rw [in_F v (by omega), decide_eq_false hn]; decide)
  · refine x_bipush dX12_force_18 kb_m2 ?_
    exact x_iret dX12_force_20 rfl (xRet_i)
theorem Md_force_y {K : xG} {h y : Nat} {G0 G : xHp} {hl : xHl} {r : xRw} {sc : Nat × Nat × Int32} {A : Nat → Nat → Int32} {F : Nat → Int32} {wa sa : Nat → Int64} {rc : Nat} {v : Int32} (hM : MW G0 G y hl r sc A F wa sa) (hO : HallOk hl) (h31 : F 31 = nI rc) (hrc : rc ≤ 6) (hn : v = -1 ∨ inR v rc = true) : xCall K mX12_force 1 0 0 [.ref y, .int v] h G (mdQ G0 h y (some (.int sc.2.2)) hl r (sc.1, sc.2.1, v) A F wa sa) := by
  refine x_entry (by decide) (ls := [(0, .ref y), (1, .int v)]) rfl (Nat.le_of_ble_eq_true rfl) ?_
  have hB := hM.hB
  obtain ⟨o2, o3, o4, o5, o6, o7, o8, o9⟩ := id hO
  have hN : MW G0 G y hl r sc A (upd F 31 (nI rc)) wa sa := by rw [f_at h31]; exact hM
  refine x_iload_n dX12_force_0 1 rfl ?_
  refine x_i2l dX12_force_1 ?_
  refine x_ldc2 dX12_force_2 cX12_346 ?_
  refine x_aload_n dX12_force_5 0 rfl ?_
  refine x_get (v := .int (nI rc)) dX12_force_6 fX12_340 (hN.1) rfl ?_
  refine x_iconst dX12_force_9 ki_1 ?_
  refine x_isub dX12_force_10 ?_
  refine x_i2l dX12_force_11 ?_
  refine x_cS (N := mX12_in) (d' := 0) (mc := 0) (ms := 0) (cb := 0) (sb := 0) (As := [.long v.toInt64, .long (-1 : Int64), .long (((nI rc) - (nI 1)).toInt64)]) (st := []) dX12_force_12 mX12_in_s lX12_155 rfl (by decide) (Nat.le_of_ble_eq_true rfl) (Md_in) rfl (st1 := [.int (bI (decide ((-1 : Int64) ≤ v.toInt64 ∧ v.toInt64 ≤ ((nI rc) - (nI 1)).toInt64)))]) rfl ?_
  refine x_pc (pc' := 15) rfl ?_
  refine x_ifB_ne (tgt := 21) dX12_force_15 (by decide) (fun c15 => ?_) (fun c15 => ?_)
  · refine x_aload_n dX12_force_21 0 rfl ?_
    refine x_get (v := .ref (y + 1)) dX12_force_22 fX12_9 (hN.1) rfl ?_
    refine x_bipush dX12_force_25 kb_8 ?_
    refine x_ialdN (n := 9) (f := scal hl r sc) dX12_force_27 (hN.c1) (by decide) (by decide) ?_
    refine x_topi (y := sc.2.2) rfl ?_
    refine x_istore_n (ls' := [(2, .int sc.2.2), (0, .ref y), (1, .int v)]) dX12_force_28 (by decide) rfl ?_
    refine x_aload_n dX12_force_29 1 rfl ?_
    refine x_get (v := .ref (y + 1)) dX12_force_30 fX12_9 (hN.1) rfl ?_
    refine x_bipush dX12_force_33 kb_8 ?_
    refine x_iload_n dX12_force_35 2 rfl ?_
    refine x_pc (pc' := 36) rfl ?_
    refine x_iastN (n := 9) (f := scal hl r sc) dX12_force_36 (hN.c1) (by decide) (by decide) ?_
    refine x_acong (g := scal hl r (sc.1, sc.2.1, v)) scal_8 ?_
    refine x_gen (P := fun G' => MW G0 G' y hl r (sc.1, sc.2.1, v) A (upd F 31 (nI rc)) wa sa) (hN.s1c (sc.1, sc.2.1, v)) (fun G1 hN1 => ?_)
    refine x_iload_n dX12_force_37 0 rfl ?_
    exact x_iret dX12_force_38 rfl (xEx_i _ (by have e := hN1; rw [f_at h31] at e; exact e) rfl rfl rfl)
  · exact absurd c15 (by rw [in_F v (by omega), decide_eq_true hn]; decide)
theorem Md_end_n {K : xG} {h y : Nat} {G0 G : xHp} {hl : xHl} {r : xRw} {sc : Nat × Nat × Int32} {A : Nat → Nat → Int32} {F : Nat → Int32} {wa sa : Nat → Int64} {tn : Nat} {v : Int32} (hM : MW G0 G y hl r sc A F wa sa) (hO : HallOk hl) (h27 : F 27 = nI tn) (htn : tn ≤ 400) (hn : inR v (tn + 1) = false) : xCall K mX12_end 0 0 0 [.ref y, .int v] h G (xRet (some (.int (-1))) h G) := by
  refine x_entry (by decide) (ls := [(0, .ref y), (1, .int v)]) rfl (Nat.le_of_ble_eq_true rfl) ?_
  have hB := hM.hB
  obtain ⟨o2, o3, o4, o5, o6, o7, o8, o9⟩ := id hO
  have hN : MW G0 G y hl r sc A (upd F 27 (nI tn)) wa sa := by rw [f_at h27]; exact hM
  refine x_iload_n dX12_end_0 1 rfl ?_
  refine x_if_lt (tgt := 12) dX12_end_1 (by decide) (fun c1 => ?_) (fun c1 => ?_)
  · refine x_iconst dX12_end_12 ki_m1 ?_
    exact x_iret dX12_end_13 rfl (xRet_i)
  · refine x_iload_n dX12_end_4 1 rfl ?_
    refine x_aload_n dX12_end_5 0 rfl ?_
    refine x_get (v := .int (nI tn)) dX12_end_6 fX12_159 (hN.1) rfl ?_
    refine x_icmp_le (x := v) (y := nI tn) (tgt := 14) dX12_end_9 (by decide) (fun c9 => ?_) (fun c9 => ?_)
    · exact absurd (inR_le (by omega) c1 c9) (by rw [hn]; decide)
    · refine x_iconst dX12_end_12 ki_m1 ?_
      exact x_iret dX12_end_13 rfl (xRet_i)
theorem Md_end_y {K : xG} {h y : Nat} {G0 G : xHp} {hl : xHl} {r : xRw} {sc : Nat × Nat × Int32} {A : Nat → Nat → Int32} {F : Nat → Int32} {wa sa : Nat → Int64} {tn n : Nat} (hM : MW G0 G y hl r sc A F wa sa) (hO : HallOk hl) (h27 : F 27 = nI tn) (htn : tn ≤ 400) (hn : n ≤ tn) : xCall K mX12_end 0 0 0 [.ref y, .int (nI n)] h G (mdQ G0 h y (some (.int (nI n))) hl r sc A (upd F 27 (nI n)) wa sa) := by
  refine x_entry (by decide) (ls := [(0, .ref y), (1, .int (nI n))]) rfl (Nat.le_of_ble_eq_true rfl) ?_
  have hB := hM.hB
  obtain ⟨o2, o3, o4, o5, o6, o7, o8, o9⟩ := id hO
  have hN : MW G0 G y hl r sc A (upd F 27 (nI tn)) wa sa := by rw [f_at h27]; exact hM
  refine x_iload_n dX12_end_0 1 rfl ?_
  refine x_ifN_lt (tgt := 12) dX12_end_1 (by decide) (by omega) (fun c1 => ?_) (fun c1 => ?_)
  · exact c1.elim
  · refine x_iload_n dX12_end_4 1 rfl ?_
    refine x_aload_n dX12_end_5 0 rfl ?_
    refine x_get (v := .int (nI tn)) dX12_end_6 fX12_159 (hN.1) rfl ?_
    refine x_icmpN_le (tgt := 14) dX12_end_9 (by decide) (by omega) (by omega) (fun c9 => ?_) (fun c9 => ?_)
    · refine x_aload_n dX12_end_14 0 rfl ?_
      refine x_iload_n dX12_end_15 1 rfl ?_
      refine x_put (fs' := [.int (F 0), .ref (y + 1), .ref (y + 2), .ref (y + 3), .ref (y + 4), .ref (y + 5), .ref (y + 6), .ref (y + 7), .ref (y + 8), .ref (y + 9), .ref (y + 10), .ref (y + 11), .ref (y + 12), .ref (y + 13), .ref (y + 14), .ref (y + 15), .ref (y + 16), .ref (y + 17), .ref (y + 18), .ref (y + 19), .ref (y + 20), .ref (y + 21), .ref (y + 22), .ref (y + 23), .ref (y + 24), .ref (y + 25), .ref (y + 26), .int (nI n), .int (F 28), .int (F 29), .int (F 30), .int (F 31), .int (F 32), .int (F 33), .int (F 34), .int (F 35), .int (F 36), .ref (y + 27), .ref (y + 28), .ref (y + 29), .ref (y + 30), .ref (y + 31), .ref (y + 32), .ref (y + 33), .ref (y + 34), .ref (y + 35), .ref (y + 36), .ref (y + 37), .ref (y + 38), .int (F 49), .int (F 50), .int (F 51), .int (F 52), .int (F 53), .ref (y + 39), .ref (y + 40), .ref (y + 41), .int (F 57), .int (F 58), .ref (y + 42), .ref (y + 43), .ref (y + 44), .ref (y + 45), .int (F 63), .int (F 64)]) dX12_end_16 fX12_159 (hN.1) (Nat.le_of_ble_eq_true rfl) rfl rfl rfl ?_
      refine x_geq (G' := xup _ y (modO y (upd F 27 (nI n)))) rfl ?_
      have hM1 := hN.fld (upd F 27 (nI n))
      refine x_pc (pc' := 19) rfl ?_
      refine x_iload_n dX12_end_19 1 rfl ?_
      exact x_iret dX12_end_20 rfl (xEx_i _ hM1 rfl rfl rfl)
    · exact absurd hn (by omega)
