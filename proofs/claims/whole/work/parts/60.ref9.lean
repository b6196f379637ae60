theorem Md_mall0 {K : xG} {h y k : Nat} {G0 G : xHp} {hl : xHl} {r : xRw} {sc : Nat × Nat × Int32} {A : Nat → Nat → Int32} {F : Nat → Int32} {wa sa : Nat → Int64} (hM : MW G0 G y hl r sc A F wa sa) (hk : k < 20) : xCall K mX12_movesAll 2 0 0 [.ref y, .int (nI k), .int (nI 0)] h G (mdQ G0 h y none hl r sc (setA A 37 (layF (A 37) r (35 * k) 35)) (mF F 0 (35 * k + 35)) wa sa) := by
  refine x_entry (by decide) (ls := [(0, .ref y), (1, .int (nI k)), (2, .int (nI 0))]) rfl (Nat.le_of_ble_eq_true rfl) ?_
  refine x_aload_n dX12_movesAll_0 0 rfl ?_
  refine x_bipush dX12_movesAll_1 kb_35 ?_
  refine x_iload_n dX12_movesAll_3 1 rfl ?_
  refine x_imulN dX12_movesAll_4 ?_
  refine x_put (fs' := [.int (F 0), .ref (y + 1), .ref (y + 2), .ref (y + 3), .ref (y + 4), .ref (y + 5), .ref (y + 6), .ref (y + 7), .ref (y + 8), .ref (y + 9), .ref (y + 10), .ref (y + 11), .ref (y + 12), .ref (y + 13), .ref (y + 14), .ref (y + 15), .ref (y + 16), .ref (y + 17), .ref (y + 18), .ref (y + 19), .ref (y + 20), .ref (y + 21), .ref (y + 22), .ref (y + 23), .ref (y + 24), .ref (y + 25), .ref (y + 26), .int (F 27), .int (F 28), .int (F 29), .int (F 30), .int (F 31), .int (F 32), .int (F 33), .int (F 34), .int (F 35), .int (F 36), .ref (y + 27), .ref (y + 28), .ref (y + 29), .ref (y + 30), .ref (y + 31), .ref (y + 32), .ref (y + 33), .ref (y + 34), .ref (y + 35), .ref (y + 36), .ref (y + 37), .ref (y + 38), .int (F 49), .int (nI (35 * k)), .int (F 51), .int (F 52), .int (F 53), .ref (y + 39), .ref (y + 40), .ref (y + 41), .int (F 57), .int (F 58), .ref (y + 42), .ref (y + 43), .ref (y + 44), .ref (y + 45), .int (F 63), .int (F 64)]) dX12_movesAll_5 fX12_411 (hM.1) (Nat.le_of_ble_eq_true rfl) rfl rfl rfl ?_
  refine x_geq (G' := xup _ y (modO y (upd F 50 (nI (35 * k))))) rfl ?_
  have hM1 := hM.fld (upd F 50 (nI (35 * k)))
  refine x_aload_n dX12_movesAll_8 0 rfl ?_
  refine x_iload_n dX12_movesAll_9 2 rfl ?_
  refine x_put (fs' := [.int (F 0), .ref (y + 1), .ref (y + 2), .ref (y + 3), .ref (y + 4), .ref (y + 5), .ref (y + 6), .ref (y + 7), .ref (y + 8), .ref (y + 9), .ref (y + 10), .ref (y + 11), .ref (y + 12), .ref (y + 13), .ref (y + 14), .ref (y + 15), .ref (y + 16), .ref (y + 17), .ref (y + 18), .ref (y + 19), .ref (y + 20), .ref (y + 21), .ref (y + 22), .ref (y + 23), .ref (y + 24), .ref (y + 25), .ref (y + 26), .int (F 27), .int (F 28), .int (F 29), .int (F 30), .int (F 31), .int (F 32), .int (F 33), .int (F 34), .int (F 35), .int (F 36), .ref (y + 27), .ref (y + 28), .ref (y + 29), .ref (y + 30), .ref (y + 31), .ref (y + 32), .ref (y + 33), .ref (y + 34), .ref (y + 35), .ref (y + 36), .ref (y + 37), .ref (y + 38), .int (F 49), .int (nI (35 * k)), .int (nI 0), .int (F 52), .int (F 53), .ref (y + 39), .ref (y + 40), .ref (y + 41), .int (F 57), .int (F 58), .ref (y + 42), .ref (y + 43), .ref (y + 44), .ref (y + 45), .int (F 63), .int (F 64)]) dX12_movesAll_10 fX12_407 (hM1.1) (Nat.le_of_ble_eq_true rfl) rfl (by first | rfl | decide | exact bI_nar _) (by first | rfl | decide | exact bI_fit _) ?_
  refine x_geq (G' := xup _ y (modO y (mF F 0 (35 * k)))) rfl ?_
  have hM2 := hM1.fld (mF F 0 (35 * k))
  refine x_aload_n dX12_movesAll_13 0 rfl ?_
  refine x_pc (pc' := 14) rfl ?_
  refine x_get (v := .ref (y + 1)) dX12_movesAll_14 fX12_9 (hM2.1) rfl ?_
  refine x_iconst dX12_movesAll_17 ki_5 ?_
  refine x_aload_n dX12_movesAll_18 0 rfl ?_
  refine x_aload_n dX12_movesAll_19 0 rfl ?_
  refine x_get (v := .ref (y + 1)) dX12_movesAll_20 fX12_9 (hM2.1) rfl ?_
  refine x_iconst dX12_movesAll_23 ki_5 ?_
  refine x_ialdN (n := 9) (f := scal hl r sc) dX12_movesAll_24 (hM2.c1) (by decide) (by decide) ?_
  refine x_topi (y := r 0) rfl ?_
  refine x_cVe (N := mX12_moves) (d' := 0) (mc := 0) (ms := 0) (cb := 0) (sb := 0) (As := [.int (r 0)]) (st := [.int (nI 5), .ref (y + 1)]) dX12_movesAll_25 mX12_moves_v lX12_414 rfl rfl (hM2.1) rfl (by decide) (Nat.le_of_ble_eq_true rfl) (Md_moves0 (pp := 35 * k) hM2.raw (by omega) lay_1) rfl (sf := fun Ga => [.int (r 0), .int (nI 5), .ref (y + 1)]) (fun _ => rfl) (fun Ga hqa => ?_)
  have hNa : MW G0 Ga y hl r sc (setA A 37 (layF (A 37) r (35 * k) 1)) (mF F 0 (35 * k + 1)) wa sa := RW.md' hqa hM.hB
  refine x_iastN (n := 9) (f := scal hl r sc) dX12_movesAll_28 (hNa.c1) (by decide) (by decide) ?_
  have hM3 := hNa.s1m (r 0)
  refine x_gen (P := fun G' => MW G0 G' y hl r sc (setA A 37 (layF (A 37) r (35 * k) 1)) (mF F 0 (35 * k + 1)) wa sa) (by have e := hM3; rw [show upd r 0 (r 0) = r from upd_self] at e; exact e) (fun G1 hN1 => ?_)
  refine x_aload_n dX12_movesAll_29 0 rfl ?_
  refine x_pc (pc' := 30) rfl ?_
  refine x_aload_n dX12_movesAll_30 0 rfl ?_
  refine x_get (v := .ref (y + 3)) dX12_movesAll_31 fX12_16 (hN1.1) rfl ?_
  refine x_cVe (N := mX12_movesRow) (d' := 1) (mc := 0) (ms := 0) (cb := 0) (sb := 0) (As := [.ref (y + 3)]) (st := []) dX12_movesAll_34 mX12_movesRow_v lX12_417 rfl rfl (hN1.1) rfl (by decide) (Nat.le_of_ble_eq_true rfl) (Md_mrow0 (q := 3) (pp := 35 * k + 1) (by decide) (by decide) (by decide) (by decide) (by decide) (by decide) (by decide) (by show 35 * k + 1 + 4 ≤ 700; omega) hN1.raw) rfl (sf := fun Ga3 => []) (fun _ => rfl) (fun Ga3 hqa3 => ?_)
  have hNa3 : MW G0 Ga3 y hl r sc (setA A 37 (layF (A 37) r (35 * k) 5)) (mF F 0 (35 * k + 5)) wa sa := RW.md' (by rw [show 5 = 1 + 4 from rfl, ← lay_n (k := 3) (o := 1) (n := 4) (by decide)]; exact hqa3) hM.hB
  refine x_aload_n dX12_movesAll_37 0 rfl ?_
  refine x_aload_n dX12_movesAll_38 0 rfl ?_
  refine x_get (v := .ref (y + 5)) dX12_movesAll_39 fX12_22 (hNa3.1) rfl ?_
  refine x_cVe (N := mX12_movesRow) (d' := 1) (mc := 0) (ms := 0) (cb := 0) (sb := 0) (As := [.ref (y + 5)]) (st := []) dX12_movesAll_42 mX12_movesRow_v lX12_417 rfl rfl (hNa3.1) rfl (by decide) (Nat.le_of_ble_eq_true rfl) (Md_mrow0 (q := 5) (pp := 35 * k + 5) (by decide) (by decide) (by decide) (by decide) (by decide) (by decide) (by decide) (by show 35 * k + 5 + 4 ≤ 700; omega) hNa3.raw) rfl (sf := fun Ga5 => []) (fun _ => rfl) (fun Ga5 hqa5 => ?_)
  have hNa5 : MW G0 Ga5 y hl r sc (setA A 37 (layF (A 37) r (35 * k) 9)) (mF F 0 (35 * k + 9)) wa sa := RW.md' (by rw [show 9 = 5 + 4 from rfl, ← lay_n (k := 5) (o := 5) (n := 4) (by decide)]; exact hqa5) hM.hB
  refine x_aload_n dX12_movesAll_45 0 rfl ?_
  refine x_aload_n dX12_movesAll_46 0 rfl ?_
  refine x_get (v := .ref (y + 6)) dX12_movesAll_47 fX12_25 (hNa5.1) rfl ?_
  refine x_pc (pc' := 50) rfl ?_
  refine x_cVe (N := mX12_movesRow) (d' := 1) (mc := 0) (ms := 0) (cb := 0) (sb := 0) (As := [.ref (y + 6)]) (st := []) dX12_movesAll_50 mX12_movesRow_v lX12_417 rfl rfl (hNa5.1) rfl (by decide) (Nat.le_of_ble_eq_true rfl) (Md_mrow0 (q := 6) (pp := 35 * k + 9) (by decide) (by decide) (by decide) (by decide) (by decide) (by decide) (by decide) (by show 35 * k + 9 + 4 ≤ 700; omega) hNa5.raw) rfl (sf := fun Ga6 => []) (fun _ => rfl) (fun Ga6 hqa6 => ?_)
  have hNa6 : MW G0 Ga6 y hl r sc (setA A 37 (layF (A 37) r (35 * k) 13)) (mF F 0 (35 * k + 13)) wa sa := RW.md' (by rw [show 13 = 9 + 4 from rfl, ← lay_n (k := 6) (o := 9) (n := 4) (by decide)]; exact hqa6) hM.hB
  refine x_aload_n dX12_movesAll_53 0 rfl ?_
  refine x_aload_n dX12_movesAll_54 0 rfl ?_
  refine x_get (v := .ref (y + 7)) dX12_movesAll_55 fX12_28 (hNa6.1) rfl ?_
  refine x_cVe (N := mX12_movesRow) (d' := 1) (mc := 0) (ms := 0) (cb := 0) (sb := 0) (As := [.ref (y + 7)]) (st := []) dX12_movesAll_58 mX12_movesRow_v lX12_417 rfl rfl (hNa6.1) rfl (by decide) (Nat.le_of_ble_eq_true rfl) (Md_mrow0 (q := 7) (pp := 35 * k + 13) (by decide) (by decide) (by decide) (by decide) (by decide) (by decide) (by decide) (by show 35 * k + 13 + 4 ≤ 700; omega) hNa6.raw) rfl (sf := fun Ga7 => []) (fun _ => rfl) (fun Ga7 hqa7 => ?_)
  have hNa7 : MW G0 Ga7 y hl r sc (setA A 37 (layF (A 37) r (35 * k) 17)) (mF F 0 (35 * k + 17)) wa sa := RW.md' (by rw [show 17 = 13 + 4 from rfl, ← lay_n (k := 7) (o := 13) (n := 4) (by decide)]; exact hqa7) hM.hB
  refine x_aload_n dX12_movesAll_61 0 rfl ?_
  refine x_aload_n dX12_movesAll_62 0 rfl ?_
  refine x_get (v := .ref (y + 8)) dX12_movesAll_63 fX12_31 (hNa7.1) rfl ?_
  refine x_cVe (N := mX12_movesRow) (d' := 1) (mc := 0) (ms := 0) (cb := 0) (sb := 0) (As := [.ref (y + 8)]) (st := []) dX12_movesAll_66 mX12_movesRow_v lX12_417 rfl rfl (hNa7.1) rfl (by decide) (Nat.le_of_ble_eq_true rfl) (Md_mrow0 (q := 8) (pp := 35 * k + 17) (by decide) (by decide) (by decide) (by decide) (by decide) (by decide) (by decide) (by show 35 * k + 17 + 4 ≤ 700; omega) hNa7.raw) rfl (sf := fun Ga8 => []) (fun _ => rfl) (fun Ga8 hqa8 => ?_)
  have hNa8 : MW G0 Ga8 y hl r sc (setA A 37 (layF (A 37) r (35 * k) 21)) (mF F 0 (35 * k + 21)) wa sa := RW.md' (by rw [show 21 = 17 + 4 from rfl, ← lay_n (k := 8) (o := 17) (n := 4) (by decide)]; exact hqa8) hM.hB
  refine x_aload_n dX12_movesAll_69 0 rfl ?_
  refine x_pc (pc' := 70) rfl ?_
  refine x_aload_n dX12_movesAll_70 0 rfl ?_
  refine x_get (v := .ref (y + 13)) dX12_movesAll_71 fX12_46 (hNa8.1) rfl ?_
  refine x_cVe (N := mX12_movesRow) (d' := 1) (mc := 0) (ms := 0) (cb := 0) (sb := 0) (As := [.ref (y + 13)]) (st := []) dX12_movesAll_74 mX12_movesRow_v lX12_417 rfl rfl (hNa8.1) rfl (by decide) (Nat.le_of_ble_eq_true rfl) (Md_mrow0 (q := 13) (pp := 35 * k + 21) (by decide) (by decide) (by decide) (by decide) (by decide) (by decide) (by decide) (by show 35 * k + 21 + 7 ≤ 700; omega) hNa8.raw) rfl (sf := fun Ga13 => []) (fun _ => rfl) (fun Ga13 hqa13 => ?_)
  have hNa13 : MW G0 Ga13 y hl r sc (setA A 37 (layF (A 37) r (35 * k) 28)) (mF F 0 (35 * k + 28)) wa sa := RW.md' (by rw [show 28 = 21 + 7 from rfl, ← lay_n (k := 13) (o := 21) (n := 7) (by decide)]; exact hqa13) hM.hB
  refine x_aload_n dX12_movesAll_77 0 rfl ?_
  refine x_aload_n dX12_movesAll_78 0 rfl ?_
  refine x_get (v := .ref (y + 14)) dX12_movesAll_79 fX12_49 (hNa13.1) rfl ?_
  refine x_cVe (N := mX12_movesRow) (d' := 1) (mc := 0) (ms := 0) (cb := 0) (sb := 0) (As := [.ref (y + 14)]) (st := []) dX12_movesAll_82 mX12_movesRow_v lX12_417 rfl rfl (hNa13.1) rfl (by decide) (Nat.le_of_ble_eq_true rfl) (Md_mrow0 (q := 14) (pp := 35 * k + 28) (by decide) (by decide) (by decide) (by decide) (by decide) (by decide) (by decide) (by show 35 * k + 28 + 7 ≤ 700; omega) hNa13.raw) rfl (sf := fun Ga14 => []) (fun _ => rfl) (fun Ga14 hqa14 => ?_)
  have hNa14 : MW G0 Ga14 y hl r sc (setA A 37 (layF (A 37) r (35 * k) 35)) (mF F 0 (35 * k + 35)) wa sa := RW.md' (by rw [show 35 = 28 + 7 from rfl, ← lay_n (k := 14) (o := 28) (n := 7) (by decide)]; exact hqa14) hM.hB
  exact x_vret dX12_movesAll_85 rfl (xEx_i Ga14 hNa14 rfl rfl rfl)
theorem Md_mall1 {K : xG} {h y k : Nat} {G0 G : xHp} {hl : xHl} {r : xRw} {sc : Nat × Nat × Int32} {A : Nat → Nat → Int32} {F : Nat → Int32} {wa sa : Nat → Int64} (hM : MW G0 G y hl r sc A F wa sa) (hk : k < 20) : xCall K mX12_movesAll 2 0 0 [.ref y, .int (nI k), .int (nI 1)] h G (mdQ G0 h y none hl (ldF (A 37) r (35 * k) 35) sc A (mF F 1 (35 * k + 35)) wa sa) := by
  refine x_entry (by decide) (ls := [(0, .ref y), (1, .int (nI k)), (2, .int (nI 1))]) rfl (Nat.le_of_ble_eq_true rfl) ?_
  refine x_aload_n dX12_movesAll_0 0 rfl ?_
  refine x_bipush dX12_movesAll_1 kb_35 ?_
  refine x_iload_n dX12_movesAll_3 1 rfl ?_
  refine x_imulN dX12_movesAll_4 ?_
  refine x_put (fs' := [.int (F 0), .ref (y + 1), .ref (y + 2), .ref (y + 3), .ref (y + 4), .ref (y + 5), .ref (y + 6), .ref (y + 7), .ref (y + 8), .ref (y + 9), .ref (y + 10), .ref (y + 11), .ref (y + 12), .ref (y + 13), .ref (y + 14), .ref (y + 15), .ref (y + 16), .ref (y + 17), .ref (y + 18), .ref (y + 19), .ref (y + 20), .ref (y + 21), .ref (y + 22), .ref (y + 23), .ref (y + 24), .ref (y + 25), .ref (y + 26), .int (F 27), .int (F 28), .int (F 29), .int (F 30), .int (F 31), .int (F 32), .int (F 33), .int (F 34), .int (F 35), .int (F 36), .ref (y + 27), .ref (y + 28), .ref (y + 29), .ref (y + 30), .ref (y + 31), .ref (y + 32), .ref (y + 33), .ref (y + 34), .ref (y + 35), .ref (y + 36), .ref (y + 37), .ref (y + 38), .int (F 49), .int (nI (35 * k)), .int (F 51), .int (F 52), .int (F 53), .ref (y + 39), .ref (y + 40), .ref (y + 41), .int (F 57), .int (F 58), .ref (y + 42), .ref (y + 43), .ref (y + 44), .ref (y + 45), .int (F 63), .int (F 64)]) dX12_movesAll_5 fX12_411 (hM.1) (Nat.le_of_ble_eq_true rfl) rfl rfl rfl ?_
  refine x_geq (G' := xup _ y (modO y (upd F 50 (nI (35 * k))))) rfl ?_
  have hM1 := hM.fld (upd F 50 (nI (35 * k)))
  refine x_aload_n dX12_movesAll_8 0 rfl ?_
  refine x_iload_n dX12_movesAll_9 2 rfl ?_
  refine x_put (fs' := [.int (F 0), .ref (y + 1), .ref (y + 2), .ref (y + 3), .ref (y + 4), .ref (y + 5), .ref (y + 6), .ref (y + 7), .ref (y + 8), .ref (y + 9), .ref (y + 10), .ref (y + 11), .ref (y + 12), .ref (y + 13), .ref (y + 14), .ref (y + 15), .ref (y + 16), .ref (y + 17), .ref (y + 18), .ref (y + 19), .ref (y + 20), .ref (y + 21), .ref (y + 22), .ref (y + 23), .ref (y + 24), .ref (y + 25), .ref (y + 26), .int (F 27), .int (F 28), .int (F 29), .int (F 30), .int (F 31), .int (F 32), .int (F 33), .int (F 34), .int (F 35), .int (F 36), .ref (y + 27), .ref (y + 28), .ref (y + 29), .ref (y + 30), .ref (y + 31), .ref (y + 32), .ref (y + 33), .ref (y + 34), .ref (y + 35), .ref (y + 36), .ref (y + 37), .ref (y + 38), .int (F 49), .int (nI (35 * k)), .int (nI 1), .int (F 52), .int (F 53), .ref (y + 39), .ref (y + 40), .ref (y + 41), .int (F 57), .int (F 58), .ref (y + 42), .ref (y + 43), .ref (y + 44), .ref (y + 45), .int (F 63), .int (F 64)]) dX12_movesAll_10 fX12_407 (hM1.1) (Nat.le_of_ble_eq_true rfl) rfl (by first | rfl | decide | exact bI_nar _) (by first | rfl | decide | exact bI_fit _) ?_
  refine x_geq (G' := xup _ y (modO y (mF F 1 (35 * k)))) rfl ?_
  have hM2 := hM1.fld (mF F 1 (35 * k))
  refine x_aload_n dX12_movesAll_13 0 rfl ?_
  refine x_pc (pc' := 14) rfl ?_
  refine x_get (v := .ref (y + 1)) dX12_movesAll_14 fX12_9 (hM2.1) rfl ?_
  refine x_iconst dX12_movesAll_17 ki_5 ?_
  refine x_aload_n dX12_movesAll_18 0 rfl ?_
  refine x_aload_n dX12_movesAll_19 0 rfl ?_
  refine x_get (v := .ref (y + 1)) dX12_movesAll_20 fX12_9 (hM2.1) rfl ?_
  refine x_iconst dX12_movesAll_23 ki_5 ?_
  refine x_ialdN (n := 9) (f := scal hl r sc) dX12_movesAll_24 (hM2.c1) (by decide) (by decide) ?_
  refine x_topi (y := r 0) rfl ?_
  refine x_cVe (N := mX12_moves) (d' := 0) (mc := 0) (ms := 0) (cb := 0) (sb := 0) (As := [.int (r 0)]) (st := [.int (nI 5), .ref (y + 1)]) dX12_movesAll_25 mX12_moves_v lX12_414 rfl rfl (hM2.1) rfl (by decide) (Nat.le_of_ble_eq_true rfl) (Md_moves1 (pp := 35 * k) (v := A 37 (35 * k)) hM2.raw (by omega) rfl) rfl (sf := fun Ga => [.int (A 37 (35 * k)), .int (nI 5), .ref (y + 1)]) (fun _ => rfl) (fun Ga hqa => ?_)
  have hNa : MW G0 Ga y hl r sc A (mF F 1 (35 * k + 1)) wa sa := RW.md' hqa hM.hB
  refine x_iastN (n := 9) (f := scal hl r sc) dX12_movesAll_28 (hNa.c1) (by decide) (by decide) ?_
  have hM3 := hNa.s1m (A 37 (35 * k))
  refine x_gen (P := fun G' => MW G0 G' y hl (ldF (A 37) r (35 * k) 1) sc A (mF F 1 (35 * k + 1)) wa sa) (by have e := hM3; rw [show upd r 0 (A 37 (35 * k)) = ldF (A 37) r (35 * k) 1 from ld_1] at e; exact e) (fun G1 hN1 => ?_)
  refine x_aload_n dX12_movesAll_29 0 rfl ?_
  refine x_pc (pc' := 30) rfl ?_
  refine x_aload_n dX12_movesAll_30 0 rfl ?_
  refine x_get (v := .ref (y + 3)) dX12_movesAll_31 fX12_16 (hN1.1) rfl ?_
  refine x_cVe (N := mX12_movesRow) (d' := 1) (mc := 0) (ms := 0) (cb := 0) (sb := 0) (As := [.ref (y + 3)]) (st := []) dX12_movesAll_34 mX12_movesRow_v lX12_417 rfl rfl (hN1.1) rfl (by decide) (Nat.le_of_ble_eq_true rfl) (Md_mrow1 (q := 3) (pp := 35 * k + 1) (by decide) (by decide) (by decide) (by decide) (by decide) (by decide) (by decide) (by show 35 * k + 1 + 4 ≤ 700; omega) hN1.raw) rfl (sf := fun Ga3 => []) (fun _ => rfl) (fun Ga3 hqa3 => ?_)
  have hNa3 : MW G0 Ga3 y hl (ldF (A 37) r (35 * k) 5) sc A (mF F 1 (35 * k + 5)) wa sa := RW.md' (by rw [show 5 = 1 + 4 from rfl, ← ld_n (k := 3) (o := 1) (n := 4) (by decide)]; exact hqa3) hM.hB
  refine x_aload_n dX12_movesAll_37 0 rfl ?_
  refine x_aload_n dX12_movesAll_38 0 rfl ?_
  refine x_get (v := .ref (y + 5)) dX12_movesAll_39 fX12_22 (hNa3.1) rfl ?_
  refine x_cVe (N := mX12_movesRow) (d' := 1) (mc := 0) (ms := 0) (cb := 0) (sb := 0) (As := [.ref (y + 5)]) (st := []) dX12_movesAll_42 mX12_movesRow_v lX12_417 rfl rfl (hNa3.1) rfl (by decide) (Nat.le_of_ble_eq_true rfl) (Md_mrow1 (q := 5) (pp := 35 * k + 5) (by decide) (by decide) (by decide) (by decide) (by decide) (by decide) (by decide) (by show 35 * k + 5 + 4 ≤ 700; omega) hNa3.raw) rfl (sf := fun Ga5 => []) (fun _ => rfl) (fun Ga5 hqa5 => ?_)
  have hNa5 : MW G0 Ga5 y hl (ldF (A 37) r (35 * k) 9) sc A (mF F 1 (35 * k + 9)) wa sa := RW.md' (by rw [show 9 = 5 + 4 from rfl, ← ld_n (k := 5) (o := 5) (n := 4) (by decide)]; exact hqa5) hM.hB
  refine x_aload_n dX12_movesAll_45 0 rfl ?_
  refine x_aload_n dX12_movesAll_46 0 rfl ?_
  refine x_get (v := .ref (y + 6)) dX12_movesAll_47 fX12_25 (hNa5.1) rfl ?_
  refine x_pc (pc' := 50) rfl ?_
  refine x_cVe (N := mX12_movesRow) (d' := 1) (mc := 0) (ms := 0) (cb := 0) (sb := 0) (As := [.ref (y + 6)]) (st := []) dX12_movesAll_50 mX12_movesRow_v lX12_417 rfl rfl (hNa5.1) rfl (by decide) (Nat.le_of_ble_eq_true rfl) (Md_mrow1 (q := 6) (pp := 35 * k + 9) (by decide) (by decide) (by decide) (by decide) (by decide) (by decide) (by decide) (by show 35 * k + 9 + 4 ≤ 700; omega) hNa5.raw) rfl (sf := fun Ga6 => []) (fun _ => rfl) (fun Ga6 hqa6 => ?_)
  have hNa6 : MW G0 Ga6 y hl (ldF (A 37) r (35 * k) 13) sc A (mF F 1 (35 * k + 13)) wa sa := RW.md' (by rw [show 13 = 9 + 4 from rfl, ← ld_n (k := 6) (o := 9) (n := 4) (by decide)]; exact hqa6) hM.hB
  refine x_aload_n dX12_movesAll_53 0 rfl ?_
  refine x_aload_n dX12_movesAll_54 0 rfl ?_
  refine x_get (v := .ref (y + 7)) dX12_movesAll_55 fX12_28 (hNa6.1) rfl ?_
  refine x_cVe (N := mX12_movesRow) (d' := 1) (mc := 0) (ms := 0) (cb := 0) (sb := 0) (As := [.ref (y + 7)]) (st := []) dX12_movesAll_58 mX12_movesRow_v lX12_417 rfl rfl (hNa6.1) rfl (by decide) (Nat.le_of_ble_eq_true rfl) (Md_mrow1 (q := 7) (pp := 35 * k + 13) (by decide) (by decide) (by decide) (by decide) (by decide) (by decide) (by decide) (by show 35 * k + 13 + 4 ≤ 700; omega) hNa6.raw) rfl (sf := fun Ga7 => []) (fun _ => rfl) (fun Ga7 hqa7 => ?_)
  have hNa7 : MW G0 Ga7 y hl (ldF (A 37) r (35 * k) 17) sc A (mF F 1 (35 * k + 17)) wa sa := RW.md' (by rw [show 17 = 13 + 4 from rfl, ← ld_n (k := 7) (o := 13) (n := 4) (by decide)]; exact hqa7) hM.hB
  refine x_aload_n dX12_movesAll_61 0 rfl ?_
  refine x_aload_n dX12_movesAll_62 0 rfl ?_
  refine x_get (v := .ref (y + 8)) dX12_movesAll_63 fX12_31 (hNa7.1) rfl ?_
  refine x_cVe (N := mX12_movesRow) (d' := 1) (mc := 0) (ms := 0) (cb := 0) (sb := 0) (As := [.ref (y + 8)]) (st := []) dX12_movesAll_66 mX12_movesRow_v lX12_417 rfl rfl (hNa7.1) rfl (by decide) (Nat.le_of_ble_eq_true rfl) (Md_mrow1 (q := 8) (pp := 35 * k + 17) (by decide) (by decide) (by decide) (by decide) (by decide) (by decide) (by decide) (by show 35 * k + 17 + 4 ≤ 700; omega) hNa7.raw) rfl (sf := fun Ga8 => []) (fun _ => rfl) (fun Ga8 hqa8 => ?_)
  have hNa8 : MW G0 Ga8 y hl (ldF (A 37) r (35 * k) 21) sc A (mF F 1 (35 * k + 21)) wa sa := RW.md' (by rw [show 21 = 17 + 4 from rfl, ← ld_n (k := 8) (o := 17) (n := 4) (by decide)]; exact hqa8) hM.hB
  refine x_aload_n dX12_movesAll_69 0 rfl ?_
  refine x_pc (pc' := 70) rfl ?_
  refine x_aload_n dX12_movesAll_70 0 rfl ?_
  refine x_get (v := .ref (y + 13)) dX12_movesAll_71 fX12_46 (hNa8.1) rfl ?_
  refine x_cVe (N := mX12_movesRow) (d' := 1) (mc := 0) (ms := 0) (cb := 0) (sb := 0) (As := [.ref (y + 13)]) (st := []) dX12_movesAll_74 mX12_movesRow_v lX12_417 rfl rfl (hNa8.1) rfl (by decide) (Nat.le_of_ble_eq_true rfl) (Md_mrow1 (q := 13) (pp := 35 * k + 21) (by decide) (by decide) (by decide) (by decide) (by decide) (by decide) (by decide) (by show 35 * k + 21 + 7 ≤ 700; omega) hNa8.raw) rfl (sf := fun Ga13 => []) (fun _ => rfl) (fun Ga13 hqa13 => ?_)
  have hNa13 : MW G0 Ga13 y hl (ldF (A 37) r (35 * k) 28) sc A (mF F 1 (35 * k + 28)) wa sa := RW.md' (by rw [show 28 = 21 + 7 from rfl, ← ld_n (k := 13) (o := 21) (n := 7) (by decide)]; exact hqa13) hM.hB
  refine x_aload_n dX12_movesAll_77 0 rfl ?_
  refine x_aload_n dX12_movesAll_78 0 rfl ?_
  refine x_get (v := .ref (y + 14)) dX12_movesAll_79 fX12_49 (hNa13.1) rfl ?_
  refine x_cVe (N := mX12_movesRow) (d' := 1) (mc := 0) (ms := 0) (cb := 0) (sb := 0) (As := [.ref (y + 14)]) (st := []) dX12_movesAll_82 mX12_movesRow_v lX12_417 rfl rfl (hNa13.1) rfl (by decide) (Nat.le_of_ble_eq_true rfl) (Md_mrow1 (q := 14) (pp := 35 * k + 28) (by decide) (by decide) (by decide) (by decide) (by decide) (by decide) (by decide) (by show 35 * k + 28 + 7 ≤ 700; omega) hNa13.raw) rfl (sf := fun Ga14 => []) (fun _ => rfl) (fun Ga14 hqa14 => ?_)
  have hNa14 : MW G0 Ga14 y hl (ldF (A 37) r (35 * k) 35) sc A (mF F 1 (35 * k + 35)) wa sa := RW.md' (by rw [show 35 = 28 + 7 from rfl, ← ld_n (k := 14) (o := 28) (n := 7) (by decide)]; exact hqa14) hM.hB
  exact x_vret dX12_movesAll_85 rfl (xEx_i Ga14 hNa14 rfl rfl rfl)
