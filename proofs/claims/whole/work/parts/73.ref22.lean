theorem Md_starts {K : xG} {h y : Nat} {G0 G : xHp} {hl : xHl} {r : xRw} {sc : Nat × Nat × Int32} {A : Nat → Nat → Int32} {F : Nat → Int32} {wa sa : Nat → Int64} {tn p f sl en de co op : Nat} (hM : MW G0 G y hl r sc A (pF F tn p f sl en de co op) wa sa) : xCall K mX12_starts 0 0 0 [.ref y] h G (mdQ G0 h y none hl r sc A (pF F tn 0 0 sl 0 0 0 op) wa sa) := by
  refine x_entry (by decide) (ls := [(0, .ref y)]) rfl (Nat.le_of_ble_eq_true rfl) ?_
  refine x_aload_n dX12_starts_0 0 rfl ?_
  refine x_iconst dX12_starts_1 ki_0 ?_
  refine x_put (fs' := [.int (F 0), .ref (y + 1), .ref (y + 2), .ref (y + 3), .ref (y + 4), .ref (y + 5), .ref (y + 6), .ref (y + 7), .ref (y + 8), .ref (y + 9), .ref (y + 10), .ref (y + 11), .ref (y + 12), .ref (y + 13), .ref (y + 14), .ref (y + 15), .ref (y + 16), .ref (y + 17), .ref (y + 18), .ref (y + 19), .ref (y + 20), .ref (y + 21), .ref (y + 22), .ref (y + 23), .ref (y + 24), .ref (y + 25), .ref (y + 26), .int (nI tn), .int (nI 0), .int (nI f), .int (nI sl), .int (F 31), .int (nI en), .int (nI de), .int (nI co), .int (nI op), .int (F 36), .ref (y + 27), .ref (y + 28), .ref (y + 29), .ref (y + 30), .ref (y + 31), .ref (y + 32), .ref (y + 33), .ref (y + 34), .ref (y + 35), .ref (y + 36), .ref (y + 37), .ref (y + 38), .int (F 49), .int (F 50), .int (F 51), .int (F 52), .int (F 53), .ref (y + 39), .ref (y + 40), .ref (y + 41), .int (F 57), .int (F 58), .ref (y + 42), .ref (y + 43), .ref (y + 44), .ref (y + 45), .int (F 63), .int (F 64)]) dX12_starts_2 fX12_190 (hM.1) (Nat.le_of_ble_eq_true rfl) rfl rfl rfl ?_
  refine x_geq (G' := xup _ y (modO y (pF F tn 0 f sl en de co op))) rfl ?_
  have hM1 := hM.fld (pF F tn 0 f sl en de co op)
  refine x_aload_n dX12_starts_5 0 rfl ?_
  refine x_iconst dX12_starts_6 ki_0 ?_
  refine x_put (fs' := [.int (F 0), .ref (y + 1), .ref (y + 2), .ref (y + 3), .ref (y + 4), .ref (y + 5), .ref (y + 6), .ref (y + 7), .ref (y + 8), .ref (y + 9), .ref (y + 10), .ref (y + 11), .ref (y + 12), .ref (y + 13), .ref (y + 14), .ref (y + 15), .ref (y + 16), .ref (y + 17), .ref (y + 18), .ref (y + 19), .ref (y + 20), .ref (y + 21), .ref (y + 22), .ref (y + 23), .ref (y + 24), .ref (y + 25), .ref (y + 26), .int (nI tn), .int (nI 0), .int (nI 0), .int (nI sl), .int (F 31), .int (nI en), .int (nI de), .int (nI co), .int (nI op), .int (F 36), .ref (y + 27), .ref (y + 28), .ref (y + 29), .ref (y + 30), .ref (y + 31), .ref (y + 32), .ref (y + 33), .ref (y + 34), .ref (y + 35), .ref (y + 36), .ref (y + 37), .ref (y + 38), .int (F 49), .int (F 50), .int (F 51), .int (F 52), .int (F 53), .ref (y + 39), .ref (y + 40), .ref (y + 41), .int (F 57), .int (F 58), .ref (y + 42), .ref (y + 43), .ref (y + 44), .ref (y + 45), .int (F 63), .int (F 64)]) dX12_starts_7 fX12_187 (hM1.1) (Nat.le_of_ble_eq_true rfl) rfl rfl rfl ?_
  refine x_geq (G' := xup _ y (modO y (pF F tn 0 0 sl en de co op))) rfl ?_
  have hM2 := hM1.fld (pF F tn 0 0 sl en de co op)
  refine x_aload_n dX12_starts_10 0 rfl ?_
  refine x_iconst dX12_starts_11 ki_0 ?_
  refine x_put (fs' := [.int (F 0), .ref (y + 1), .ref (y + 2), .ref (y + 3), .ref (y + 4), .ref (y + 5), .ref (y + 6), .ref (y + 7), .ref (y + 8), .ref (y + 9), .ref (y + 10), .ref (y + 11), .ref (y + 12), .ref (y + 13), .ref (y + 14), .ref (y + 15), .ref (y + 16), .ref (y + 17), .ref (y + 18), .ref (y + 19), .ref (y + 20), .ref (y + 21), .ref (y + 22), .ref (y + 23), .ref (y + 24), .ref (y + 25), .ref (y + 26), .int (nI tn), .int (nI 0), .int (nI 0), .int (nI sl), .int (F 31), .int (nI 0), .int (nI de), .int (nI co), .int (nI op), .int (F 36), .ref (y + 27), .ref (y + 28), .ref (y + 29), .ref (y + 30), .ref (y + 31), .ref (y + 32), .ref (y + 33), .ref (y + 34), .ref (y + 35), .ref (y + 36), .ref (y + 37), .ref (y + 38), .int (F 49), .int (F 50), .int (F 51), .int (F 52), .int (F 53), .ref (y + 39), .ref (y + 40), .ref (y + 41), .int (F 57), .int (F 58), .ref (y + 42), .ref (y + 43), .ref (y + 44), .ref (y + 45), .int (F 63), .int (F 64)]) dX12_starts_12 fX12_220 (hM2.1) (Nat.le_of_ble_eq_true rfl) rfl rfl rfl ?_
  refine x_geq (G' := xup _ y (modO y (pF F tn 0 0 sl 0 de co op))) rfl ?_
  have hM3 := hM2.fld (pF F tn 0 0 sl 0 de co op)
  refine x_pc (pc' := 15) rfl ?_
  refine x_aload_n dX12_starts_15 0 rfl ?_
  refine x_iconst dX12_starts_16 ki_0 ?_
  refine x_put (fs' := [.int (F 0), .ref (y + 1), .ref (y + 2), .ref (y + 3), .ref (y + 4), .ref (y + 5), .ref (y + 6), .ref (y + 7), .ref (y + 8), .ref (y + 9), .ref (y + 10), .ref (y + 11), .ref (y + 12), .ref (y + 13), .ref (y + 14), .ref (y + 15), .ref (y + 16), .ref (y + 17), .ref (y + 18), .ref (y + 19), .ref (y + 20), .ref (y + 21), .ref (y + 22), .ref (y + 23), .ref (y + 24), .ref (y + 25), .ref (y + 26), .int (nI tn), .int (nI 0), .int (nI 0), .int (nI sl), .int (F 31), .int (nI 0), .int (nI 0), .int (nI co), .int (nI op), .int (F 36), .ref (y + 27), .ref (y + 28), .ref (y + 29), .ref (y + 30), .ref (y + 31), .ref (y + 32), .ref (y + 33), .ref (y + 34), .ref (y + 35), .ref (y + 36), .ref (y + 37), .ref (y + 38), .int (F 49), .int (F 50), .int (F 51), .int (F 52), .int (F 53), .ref (y + 39), .ref (y + 40), .ref (y + 41), .int (F 57), .int (F 58), .ref (y + 42), .ref (y + 43), .ref (y + 44), .ref (y + 45), .int (F 63), .int (F 64)]) dX12_starts_17 fX12_261 (hM3.1) (Nat.le_of_ble_eq_true rfl) rfl rfl rfl ?_
  refine x_geq (G' := xup _ y (modO y (pF F tn 0 0 sl 0 0 co op))) rfl ?_
  have hM4 := hM3.fld (pF F tn 0 0 sl 0 0 co op)
  refine x_aload_n dX12_starts_20 0 rfl ?_
  refine x_iconst dX12_starts_21 ki_0 ?_
  refine x_put (fs' := [.int (F 0), .ref (y + 1), .ref (y + 2), .ref (y + 3), .ref (y + 4), .ref (y + 5), .ref (y + 6), .ref (y + 7), .ref (y + 8), .ref (y + 9), .ref (y + 10), .ref (y + 11), .ref (y + 12), .ref (y + 13), .ref (y + 14), .ref (y + 15), .ref (y + 16), .ref (y + 17), .ref (y + 18), .ref (y + 19), .ref (y + 20), .ref (y + 21), .ref (y + 22), .ref (y + 23), .ref (y + 24), .ref (y + 25), .ref (y + 26), .int (nI tn), .int (nI 0), .int (nI 0), .int (nI sl), .int (F 31), .int (nI 0), .int (nI 0), .int (nI 0), .int (nI op), .int (F 36), .ref (y + 27), .ref (y + 28), .ref (y + 29), .ref (y + 30), .ref (y + 31), .ref (y + 32), .ref (y + 33), .ref (y + 34), .ref (y + 35), .ref (y + 36), .ref (y + 37), .ref (y + 38), .int (F 49), .int (F 50), .int (F 51), .int (F 52), .int (F 53), .ref (y + 39), .ref (y + 40), .ref (y + 41), .int (F 57), .int (F 58), .ref (y + 42), .ref (y + 43), .ref (y + 44), .ref (y + 45), .int (F 63), .int (F 64)]) dX12_starts_22 fX12_223 (hM4.1) (Nat.le_of_ble_eq_true rfl) rfl rfl rfl ?_
  refine x_geq (G' := xup _ y (modO y (pF F tn 0 0 sl 0 0 0 op))) rfl ?_
  have hM5 := hM4.fld (pF F tn 0 0 sl 0 0 0 op)
  exact x_vret dX12_starts_25 rfl (xEx_i _ hM5 rfl rfl rfl)
theorem Md_fails0 {K : xG} {h y : Nat} {G0 G : xHp} {hl : xHl} {r : xRw} {sc : Nat × Nat × Int32} {A : Nat → Nat → Int32} {F : Nat → Int32} {wa sa : Nat → Int64} {tn p f sl en de co op : Nat} {a b : Nat} (hM : MW G0 G y hl r sc A (pF F tn p 0 sl en de co op) wa sa) : xCall K mX12_fails 0 0 0 [.ref y, .int (nI a), .int (nI b)] h G (mdQ G0 h y none hl r sc A (pF F tn p (1 + 8 * b + a) sl en de co op) wa sa) := by
  refine x_entry (by decide) (ls := [(0, .ref y), (1, .int (nI a)), (2, .int (nI b))]) rfl (Nat.le_of_ble_eq_true rfl) ?_
  refine x_aload_n dX12_fails_0 0 rfl ?_
  refine x_aload_n dX12_fails_1 0 rfl ?_
  refine x_get (v := .int (nI 0)) dX12_fails_2 fX12_187 (hM.1) rfl ?_
  refine x_ifN_ne (tgt := 19) dX12_fails_5 (by decide) (by omega) (fun c5 => ?_) (fun c5 => ?_)
  · exact absurd c5 (by decide)
  · refine x_iconst dX12_fails_8 ki_1 ?_
    refine x_bipush dX12_fails_9 kb_8 ?_
    refine x_iload_n dX12_fails_11 2 rfl ?_
    refine x_imulN dX12_fails_12 ?_
    refine x_iaddN dX12_fails_13 ?_
    refine x_pc (pc' := 14) rfl ?_
    refine x_iload_n dX12_fails_14 1 rfl ?_
    refine x_iaddN dX12_fails_15 ?_
    refine x_goto (tgt := 23) dX12_fails_16 (by decide) ?_
    refine x_put (fs' := [.int (F 0), .ref (y + 1), .ref (y + 2), .ref (y + 3), .ref (y + 4), .ref (y + 5), .ref (y + 6), .ref (y + 7), .ref (y + 8), .ref (y + 9), .ref (y + 10), .ref (y + 11), .ref (y + 12), .ref (y + 13), .ref (y + 14), .ref (y + 15), .ref (y + 16), .ref (y + 17), .ref (y + 18), .ref (y + 19), .ref (y + 20), .ref (y + 21), .ref (y + 22), .ref (y + 23), .ref (y + 24), .ref (y + 25), .ref (y + 26), .int (nI tn), .int (nI p), .int (nI ((1 + (8 * b)) + a)), .int (nI sl), .int (F 31), .int (nI en), .int (nI de), .int (nI co), .int (nI op), .int (F 36), .ref (y + 27), .ref (y + 28), .ref (y + 29), .ref (y + 30), .ref (y + 31), .ref (y + 32), .ref (y + 33), .ref (y + 34), .ref (y + 35), .ref (y + 36), .ref (y + 37), .ref (y + 38), .int (F 49), .int (F 50), .int (F 51), .int (F 52), .int (F 53), .ref (y + 39), .ref (y + 40), .ref (y + 41), .int (F 57), .int (F 58), .ref (y + 42), .ref (y + 43), .ref (y + 44), .ref (y + 45), .int (F 63), .int (F 64)]) dX12_fails_23 fX12_187 (hM.1) (Nat.le_of_ble_eq_true rfl) rfl rfl rfl ?_
    refine x_geq (G' := xup _ y (modO y (pF F tn p ((1 + (8 * b)) + a) sl en de co op))) rfl ?_
    have hM1 := hM.fld (pF F tn p ((1 + (8 * b)) + a) sl en de co op)
    exact x_vret dX12_fails_26 rfl (xEx_i _ hM1 rfl rfl rfl)
theorem Md_sign_i {K : xG} {h y : Nat} {G0 G : xHp} {hl : xHl} {r : xRw} {sc : Nat × Nat × Int32} {A : Nat → Nat → Int32} {F : Nat → Int32} {wa sa : Nat → Int64} {tn p f sl en de co op : Nat} {tp : Nat → Nat} (hM : MW G0 G y hl r sc A (pF F tn p f sl en de co op) wa sa) (hT : ∀ j, j < 400 → A 27 j &&& nI 255 = nI (tp j)) (htn : tn ≤ 400) (hp : p < tn) : xCall K mX12_sign 0 0 0 [.ref y] h G (xRet (some (.int (nI (tp p)))) h G) := by
  refine x_entry (by decide) (ls := [(0, .ref y)]) rfl (Nat.le_of_ble_eq_true rfl) ?_
  refine x_aload_n dX12_sign_0 0 rfl ?_
  refine x_get (v := .int (nI p)) dX12_sign_1 fX12_190 (hM.1) rfl ?_
  refine x_aload_n dX12_sign_4 0 rfl ?_
  refine x_get (v := .int (nI tn)) dX12_sign_5 fX12_159 (hM.1) rfl ?_
  refine x_icmpN_ge (tgt := 27) dX12_sign_8 (by decide) (by omega) (by omega) (fun c8 => ?_) (fun c8 => ?_)
  · exact absurd hp (by omega)
  · refine x_aload_n dX12_sign_11 0 rfl ?_
    refine x_get (v := .ref (y + 27)) dX12_sign_12 fX12_92 (hM.1) rfl ?_
    refine x_aload_n dX12_sign_15 0 rfl ?_
    refine x_get (v := .int (nI p)) dX12_sign_16 fX12_190 (hM.1) rfl ?_
    refine x_pc (pc' := 19) rfl ?_
    refine x_baldN (n := 400) (f := A 27) dX12_sign_19 (hM.c27) (by omega) (by decide) ?_
    refine x_sipush dX12_sign_20 ks_255 ?_
    refine x_iand dX12_sign_23 ?_
    refine x_goto (tgt := 28) dX12_sign_24 (by decide) ?_
    exact x_iret dX12_sign_28 rfl (xRet_e (by rw [hT p (by omega)]) rfl)
theorem Md_sign_o {K : xG} {h y : Nat} {G0 G : xHp} {hl : xHl} {r : xRw} {sc : Nat × Nat × Int32} {A : Nat → Nat → Int32} {F : Nat → Int32} {wa sa : Nat → Int64} {tn p f sl en de co op : Nat} (hM : MW G0 G y hl r sc A (pF F tn p f sl en de co op) wa sa) (htn : tn ≤ 400) (hp : tn ≤ p) (hp9 : p < 100000) : xCall K mX12_sign 0 0 0 [.ref y] h G (xRet (some (.int (-1))) h G) := by
  refine x_entry (by decide) (ls := [(0, .ref y)]) rfl (Nat.le_of_ble_eq_true rfl) ?_
  refine x_aload_n dX12_sign_0 0 rfl ?_
  refine x_get (v := .int (nI p)) dX12_sign_1 fX12_190 (hM.1) rfl ?_
  refine x_aload_n dX12_sign_4 0 rfl ?_
  refine x_get (v := .int (nI tn)) dX12_sign_5 fX12_159 (hM.1) rfl ?_
  refine x_icmpN_ge (tgt := 27) dX12_sign_8 (by decide) (by omega) (by omega) (fun c8 => ?_) (fun c8 => ?_)
  · refine x_iconst dX12_sign_27 ki_m1 ?_
    exact x_iret dX12_sign_28 rfl (xRet_i)
  · exact absurd hp (by omega)
