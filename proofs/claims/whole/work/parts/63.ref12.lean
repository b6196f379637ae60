theorem Md_savedThen {K : xG} {h y : Nat} {G0 G : xHp} {hl hl2 : xHl} {r r2 : xRw} {sc : Nat × Nat × Int32} {A : Nat → Nat → Int32} {F : Nat → Int32} {wa sa : Nat → Int64} (hM : MW G0 G y hl2 r2 sc A F wa sa) {rv : Option (List Nat)} (hk : Kept (A 44) hl r sc) (hb : ∀ i j, hl i j < 1000000) (hO : HallOk hl2) (hV : RvR A sc rv) (hrow : RowOk hl2 r2) : xCall K mX12_savedThen 9 0 0 [.ref y] h G (mdX G0 h y (some (.int (savG hl2 rv r2))) (lbH hl hl2) r sc A (cF F 1 3650)) := by
  refine x_entry (by decide) (ls := [(0, .ref y)]) rfl (Nat.le_of_ble_eq_true rfl) ?_
  have hB := hM.hB
  obtain ⟨o2, o3, o4, o5, o6, o7, o8, o9⟩ := id hO
  refine x_aload_n dX12_savedThen_0 0 rfl ?_
  refine x_sipush dX12_savedThen_1 ks_400 ?_
  refine x_cVe (N := mX12_goFor) (d' := 8) (mc := 0) (ms := 0) (cb := 0) (sb := 0) (As := [.int (nI 400)]) (st := []) dX12_savedThen_4 mX12_goFor_v lX12_444 rfl rfl (hM.1) rfl (by decide) (Nat.le_of_ble_eq_true rfl) (Md_goFor hM hO hV hrow (by decide)) rfl (sf := fun e2 => []) (fun _ => rfl) (fun e2 hq2 => ?_)
  obtain ⟨⟨w2, k2⟩, G2⟩ := e2
  have hN2 : MW G0 G2 y hl2 (goN hl2 rv r2 400) sc A F w2 k2 := hq2
  refine x_aload_n dX12_savedThen_7 0 rfl ?_
  refine x_cV (N := mX12_saved) (d' := 0) (mc := 0) (ms := 0) (cb := 0) (sb := 0) (As := []) (st := []) dX12_savedThen_8 mX12_saved_v lX12_447 rfl rfl (hN2.1) rfl (by decide) (Nat.le_of_ble_eq_true rfl) (Md_saved hN2 o4) rfl (st1 := [.int (savG hl2 rv r2)]) rfl ?_
  refine x_istore_n (ls' := [(1, .int (savG hl2 rv r2)), (0, .ref y)]) dX12_savedThen_11 (by decide) rfl ?_
  refine x_aload_n dX12_savedThen_12 1 rfl ?_
  refine x_cVe (N := mX12_laysBack) (d' := 2) (mc := 0) (ms := 0) (cb := 0) (sb := 0) (As := []) (st := []) dX12_savedThen_13 mX12_laysBack_v lX12_450 rfl rfl (hN2.1) rfl (by decide) (Nat.le_of_ble_eq_true rfl) (Md_laysBack hN2 hk hb) rfl (sf := fun G3 => []) (fun _ => rfl) (fun G3 hN3 => ?_)
  refine x_iload_n dX12_savedThen_16 0 rfl ?_
  refine x_pc (pc' := 17) rfl ?_
  exact x_iret dX12_savedThen_17 rfl (xEx_i ((w2, k2), G3) hN3 rfl rfl rfl)
theorem Md_tries {K : xG} {h y : Nat} {G0 G : xHp} {hl hl2 : xHl} {r r2 : xRw} {sc : Nat × Nat × Int32} {A : Nat → Nat → Int32} {F : Nat → Int32} {wa sa : Nat → Int64} {b m w : Int32} (hM : MW G0 G y hl2 r2 sc A (upd (upd F 52 b) 53 m) wa sa) {rv : Option (List Nat)} (hk : Kept (A 44) hl r sc) (hb : ∀ i j, hl i j < 1000000) (hO : HallOk hl2) (hV : RvR A sc rv) (hrow : RowOk hl2 r2) : xCall K mX12_tries 10 0 0 [.ref y, .int w] h G (mdX G0 h y none (lbH hl hl2) r sc A (tF F (trS (b, m) w (savG hl2 rv r2)))) := by
  refine x_entry (by decide) (ls := [(0, .ref y), (1, .int w)]) rfl (Nat.le_of_ble_eq_true rfl) ?_
  have hB := hM.hB
  obtain ⟨o2, o3, o4, o5, o6, o7, o8, o9⟩ := id hO
  refine x_aload_n dX12_tries_0 0 rfl ?_
  refine x_cVe (N := mX12_savedThen) (d' := 9) (mc := 0) (ms := 0) (cb := 0) (sb := 0) (As := []) (st := []) dX12_tries_1 mX12_savedThen_v lX12_453 rfl rfl (hM.1) rfl (by decide) (Nat.le_of_ble_eq_true rfl) (Md_savedThen hM hk hb hO hV hrow) rfl (sf := fun e2 => [.int (savG hl2 rv r2)]) (fun _ => rfl) (fun e2 hq2 => ?_)
  obtain ⟨⟨w2, k2⟩, G2⟩ := e2
  have hN0 : MW G0 G2 y (lbH hl hl2) r sc A (cF (upd (upd F 52 b) 53 m) 1 3650) w2 k2 := hq2
  have hN2 : MW G0 G2 y (lbH hl hl2) r sc A (tF F (b, m)) w2 k2 := hN0.fc rfl
  refine x_istore_n (ls' := [(2, .int (savG hl2 rv r2)), (0, .ref y), (1, .int w)]) dX12_tries_4 (by decide) rfl ?_
  refine x_iload_n dX12_tries_5 0 rfl ?_
  refine x_aload_n dX12_tries_6 1 rfl ?_
  refine x_get (v := .int m) dX12_tries_7 fX12_456 (hN2.1) rfl ?_
  refine x_icmp_le (x := savG hl2 rv r2) (y := m) (tgt := 23) dX12_tries_10 (by decide) (fun c10 => ?_) (fun c10 => ?_)
  · exact x_vret dX12_tries_23 rfl (xEx_i ((w2, k2), _) (by rw [show trS (b, m) w (savG hl2 rv r2) = (b, m) from if_neg (Int32.not_lt.mpr c10)]; exact hN2) rfl rfl rfl)
  · refine x_aload_n dX12_tries_13 1 rfl ?_
    refine x_iload_n dX12_tries_14 2 rfl ?_
    refine x_pc (pc' := 15) rfl ?_
    refine x_put (fs' := [.int (F 0), .ref (y + 1), .ref (y + 2), .ref (y + 3), .ref (y + 4), .ref (y + 5), .ref (y + 6), .ref (y + 7), .ref (y + 8), .ref (y + 9), .ref (y + 10), .ref (y + 11), .ref (y + 12), .ref (y + 13), .ref (y + 14), .ref (y + 15), .ref (y + 16), .ref (y + 17), .ref (y + 18), .ref (y + 19), .ref (y + 20), .ref (y + 21), .ref (y + 22), .ref (y + 23), .ref (y + 24), .ref (y + 25), .ref (y + 26), .int (F 27), .int (F 28), .int (F 29), .int (F 30), .int (F 31), .int (F 32), .int (F 33), .int (F 34), .int (F 35), .int (F 36), .ref (y + 27), .ref (y + 28), .ref (y + 29), .ref (y + 30), .ref (y + 31), .ref (y + 32), .ref (y + 33), .ref (y + 34), .ref (y + 35), .ref (y + 36), .ref (y + 37), .ref (y + 38), .int (F 49), .int (F 50), .int (F 51), .int w, .int m, .ref (y + 39), .ref (y + 40), .ref (y + 41), .int (F 57), .int (F 58), .ref (y + 42), .ref (y + 43), .ref (y + 44), .ref (y + 45), .int (nI 3650), .int (nI 1)]) dX12_tries_15 fX12_459 (hN2.1) (Nat.le_of_ble_eq_true rfl) rfl rfl rfl ?_
    refine x_geq (G' := xup _ y (modO y (tF F (w, m)))) rfl ?_
    have hM1 := hN2.fld (tF F (w, m))
    refine x_aload_n dX12_tries_18 1 rfl ?_
    refine x_iload_n dX12_tries_19 0 rfl ?_
    refine x_put (fs' := [.int (F 0), .ref (y + 1), .ref (y + 2), .ref (y + 3), .ref (y + 4), .ref (y + 5), .ref (y + 6), .ref (y + 7), .ref (y + 8), .ref (y + 9), .ref (y + 10), .ref (y + 11), .ref (y + 12), .ref (y + 13), .ref (y + 14), .ref (y + 15), .ref (y + 16), .ref (y + 17), .ref (y + 18), .ref (y + 19), .ref (y + 20), .ref (y + 21), .ref (y + 22), .ref (y + 23), .ref (y + 24), .ref (y + 25), .ref (y + 26), .int (F 27), .int (F 28), .int (F 29), .int (F 30), .int (F 31), .int (F 32), .int (F 33), .int (F 34), .int (F 35), .int (F 36), .ref (y + 27), .ref (y + 28), .ref (y + 29), .ref (y + 30), .ref (y + 31), .ref (y + 32), .ref (y + 33), .ref (y + 34), .ref (y + 35), .ref (y + 36), .ref (y + 37), .ref (y + 38), .int (F 49), .int (F 50), .int (F 51), .int w, .int (savG hl2 rv r2), .ref (y + 39), .ref (y + 40), .ref (y + 41), .int (F 57), .int (F 58), .ref (y + 42), .ref (y + 43), .ref (y + 44), .ref (y + 45), .int (nI 3650), .int (nI 1)]) dX12_tries_20 fX12_456 (hM1.1) (Nat.le_of_ble_eq_true rfl) rfl rfl rfl ?_
    refine x_geq (G' := xup _ y (modO y (tF F (w, (savG hl2 rv r2))))) rfl ?_
    have hM2 := hM1.fld (tF F (w, (savG hl2 rv r2)))
    exact x_vret dX12_tries_23 rfl (xEx_i ((w2, k2), _) (by rw [show trS (b, m) w (savG hl2 rv r2) = (w, (savG hl2 rv r2)) from if_pos (Int32.not_le.mp c10)]; exact hM2) rfl rfl rfl)
theorem Md_triesNothing {K : xG} {h y : Nat} {G0 G : xHp} {hl : xHl} {r : xRw} {sc : Nat × Nat × Int32} {A : Nat → Nat → Int32} {F : Nat → Int32} {wa sa : Nat → Int64} (hM : MW G0 G y hl r sc A F wa sa) {rv : Option (List Nat)} (hO : HallOk hl) (hV : RvR A sc rv) (hrow : RowOk hl r) : xCall K mX12_triesNothing 11 0 0 [.ref y] h G (mdX G0 h y none hl r sc (setA A 44 (svI (ovr A hl r sc) 3600 9)) (tF F (-1, savG hl rv r))) := by
  refine x_entry (by decide) (ls := [(0, .ref y)]) rfl (Nat.le_of_ble_eq_true rfl) ?_
  have hB := hM.hB
  obtain ⟨o2, o3, o4, o5, o6, o7, o8, o9⟩ := id hO
  refine x_aload_n dX12_triesNothing_0 0 rfl ?_
  refine x_cVe (N := mX12_keepsAll) (d' := 2) (mc := 0) (ms := 0) (cb := 0) (sb := 0) (As := []) (st := []) dX12_triesNothing_1 mX12_keepsAll_v lX12_441 rfl rfl (hM.1) rfl (by decide) (Nat.le_of_ble_eq_true rfl) (Md_keepsAll hM) rfl (sf := fun G1 => []) (fun _ => rfl) (fun G1 hN1 => ?_)
  refine x_aload_n dX12_triesNothing_4 0 rfl ?_
  refine x_iconst dX12_triesNothing_5 ki_m1 ?_
  refine x_put (fs' := [.int (F 0), .ref (y + 1), .ref (y + 2), .ref (y + 3), .ref (y + 4), .ref (y + 5), .ref (y + 6), .ref (y + 7), .ref (y + 8), .ref (y + 9), .ref (y + 10), .ref (y + 11), .ref (y + 12), .ref (y + 13), .ref (y + 14), .ref (y + 15), .ref (y + 16), .ref (y + 17), .ref (y + 18), .ref (y + 19), .ref (y + 20), .ref (y + 21), .ref (y + 22), .ref (y + 23), .ref (y + 24), .ref (y + 25), .ref (y + 26), .int (F 27), .int (F 28), .int (F 29), .int (F 30), .int (F 31), .int (F 32), .int (F 33), .int (F 34), .int (F 35), .int (F 36), .ref (y + 27), .ref (y + 28), .ref (y + 29), .ref (y + 30), .ref (y + 31), .ref (y + 32), .ref (y + 33), .ref (y + 34), .ref (y + 35), .ref (y + 36), .ref (y + 37), .ref (y + 38), .int (F 49), .int (F 50), .int (F 51), .int (F 52), .int (-1), .ref (y + 39), .ref (y + 40), .ref (y + 41), .int (F 57), .int (F 58), .ref (y + 42), .ref (y + 43), .ref (y + 44), .ref (y + 45), .int (nI 3650), .int (nI 0)]) dX12_triesNothing_6 fX12_456 (hN1.1) (Nat.le_of_ble_eq_true rfl) rfl rfl rfl ?_
  refine x_geq (G' := xup _ y (modO y (upd (upd (cF F 0 3650) 52 (F 52)) 53 (-1)))) rfl ?_
  have hM1 := hN1.fld (upd (upd (cF F 0 3650) 52 (F 52)) 53 (-1))
  refine x_aload_n dX12_triesNothing_9 0 rfl ?_
  refine x_iconst dX12_triesNothing_10 ki_m1 ?_
  refine x_cVe (N := mX12_tries) (d' := 10) (mc := 0) (ms := 0) (cb := 0) (sb := 0) (As := [.int (-1)]) (st := []) dX12_triesNothing_11 mX12_tries_v lX12_462 rfl rfl (hM1.1) rfl (by decide) (Nat.le_of_ble_eq_true rfl) (Md_tries (F := cF F 0 3650) (b := F 52) (m := -1) hM1 (Kept_sv (A := A)) hB hO (hV.set (by omega)) hrow) rfl (sf := fun e2 => []) (fun _ => rfl) (fun e2 hq2 => ?_)
  obtain ⟨⟨w2, k2⟩, G2⟩ := e2
  have hN0 : MW G0 G2 y (lbH hl hl) r sc (setA A 44 (svI (ovr A hl r sc) 3600 9)) (tF (cF F 0 3650) (trS (F 52, -1) (-1) (savG hl rv r))) w2 k2 := hq2
  rw [lbH_self, show trS (F 52, -1) (-1) (savG hl rv r) = (-1, savG hl rv r) from if_pos (saved_posG hO)] at hN0
  have hN2 : MW G0 G2 y hl r sc (setA A 44 (svI (ovr A hl r sc) 3600 9)) (tF F (-1, savG hl rv r)) w2 k2 := hN0.fc rfl
  exact x_vret dX12_triesNothing_14 rfl (xEx_i ((w2, k2), G2) hN2 rfl rfl rfl)
