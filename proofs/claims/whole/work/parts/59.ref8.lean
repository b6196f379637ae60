theorem Md_moves0 {K : xG} {h y pp : Nat} {G0 G : xHp} {X X' : Nat → Nat → Int32} {F : Nat → Int32} {wa sa : Nat → Int64} {v : Int32} (hR : RW G0 G y X (mF F 0 pp) wa sa) (hp : pp < 700) (hX : setA X 37 (upd (X 37) pp v) = X') : xCall K mX12_moves 0 0 0 [.ref y, .int v] h G (xEx (fun G' => RW G0 G' y X' (mF F 0 (pp + 1)) wa sa) (fun _ => some (.int v)) (fun _ => h) (fun G' => G')) := by
  refine x_entry (by decide) (ls := [(0, .ref y), (1, .int v)]) rfl (Nat.le_of_ble_eq_true rfl) ?_
  refine x_aload_n dX12_moves_0 0 rfl ?_
  refine x_get (v := .int (nI 0)) dX12_moves_1 fX12_407 (hR.1) rfl ?_
  refine x_ifN_eq (tgt := 19) dX12_moves_4 (by decide) (by omega) (fun c4 => ?_) (fun c4 => ?_)
  · refine x_iload_n dX12_moves_19 1 rfl ?_
    refine x_istore_n (ls' := [(2, .int v), (0, .ref y), (1, .int v)]) dX12_moves_20 (by decide) rfl ?_
    refine x_aload_n dX12_moves_21 1 rfl ?_
    refine x_get (v := .ref (y + 37)) dX12_moves_22 fX12_124 (hR.1) rfl ?_
    refine x_aload_n dX12_moves_25 1 rfl ?_
    refine x_get (v := .int (nI pp)) dX12_moves_26 fX12_411 (hR.1) rfl ?_
    refine x_pc (pc' := 29) rfl ?_
    refine x_iload_n dX12_moves_29 0 rfl ?_
    refine x_iastN (n := 700) (f := X 37) dX12_moves_30 (hR.cell (k := 37) (by decide) (by decide) (by decide) (by decide) (by decide) (by decide)) (by omega) (by decide) ?_
    refine x_gen (P := fun G' => RW G0 G' y X' (mF F 0 pp) wa sa) (by have e := hR.arr (k := 37) (by decide) (by decide) (by decide) (by decide) (by decide) (by decide) (upd (X 37) pp v); rw [hX] at e; exact e) (fun G1 hR1 => ?_)
    refine x_aload_n dX12_moves_31 1 rfl ?_
    refine x_dup dX12_moves_32 rfl ?_
    refine x_get (v := .int (nI pp)) dX12_moves_33 fX12_411 (hR1.1) rfl ?_
    refine x_iconst dX12_moves_36 ki_1 ?_
    refine x_iaddN dX12_moves_37 ?_
    refine x_put (fs' := [.int (F 0), .ref (y + 1), .ref (y + 2), .ref (y + 3), .ref (y + 4), .ref (y + 5), .ref (y + 6), .ref (y + 7), .ref (y + 8), .ref (y + 9), .ref (y + 10), .ref (y + 11), .ref (y + 12), .ref (y + 13), .ref (y + 14), .ref (y + 15), .ref (y + 16), .ref (y + 17), .ref (y + 18), .ref (y + 19), .ref (y + 20), .ref (y + 21), .ref (y + 22), .ref (y + 23), .ref (y + 24), .ref (y + 25), .ref (y + 26), .int (F 27), .int (F 28), .int (F 29), .int (F 30), .int (F 31), .int (F 32), .int (F 33), .int (F 34), .int (F 35), .int (F 36), .ref (y + 27), .ref (y + 28), .ref (y + 29), .ref (y + 30), .ref (y + 31), .ref (y + 32), .ref (y + 33), .ref (y + 34), .ref (y + 35), .ref (y + 36), .ref (y + 37), .ref (y + 38), .int (F 49), .int (nI (pp + 1)), .int (nI 0), .int (F 52), .int (F 53), .ref (y + 39), .ref (y + 40), .ref (y + 41), .int (F 57), .int (F 58), .ref (y + 42), .ref (y + 43), .ref (y + 44), .ref (y + 45), .int (F 63), .int (F 64)]) dX12_moves_38 fX12_411 (hR1.1) (Nat.le_of_ble_eq_true rfl) rfl rfl rfl ?_
    refine x_geq (G' := xup _ y (modO y (mF F 0 (pp + 1)))) rfl ?_
    refine x_gen (P := fun G' => RW G0 G' y X' (mF F 0 (pp + 1)) wa sa) (hR1.fld (mF F 0 (pp + 1))) (fun G2 hR2 => ?_)
    refine x_iload_n dX12_moves_41 0 rfl ?_
    exact x_iret dX12_moves_42 rfl (xEx_i G2 hR2 rfl rfl rfl)
  · exact absurd c4 (by decide)
theorem Md_mrow0_loop {K : xG} {h y pp q : Nat} {G0 : xHp} {X : Nat → Nat → Int32} {F : Nat → Int32} {wa sa : Nat → Int64} (hq1 : 1 ≤ q) (hq2 : q ≤ 45) (hq3 : q ≠ 27) (hq4 : q ≠ 35) (hq5 : q ≠ 36) (hq6 : q ≠ 45) (hq7 : q ≠ 37) (hpn : pp + mln q ≤ 700) : ∀ (i k : Nat) (G1 : xHp), k + i = mln q → RW G0 G1 y (setA X 37 (layF (X 37) (X q) pp k)) (mF F 0 (pp + k)) wa sa → xV K mX12_movesRow 1 0 0 h G1 2 [(2, .int (nI k)), (0, .ref y), (1, .ref (y + q))] [] (rwQ G0 h y (setA X 37 (layF (X 37) (X q) pp (mln q))) (mF F 0 (pp + mln q)) wa sa) := by
  intro i
  induction i with
  | zero =>
    intro k G1 hi hN
    have hi0 : k = mln q := by omega
    subst hi0
    refine x_iload_n dX12_movesRow_2 0 rfl ?_
    refine x_aload_n dX12_movesRow_3 2 rfl ?_
    refine x_alen (t := 0) (n := mln q) (f := X q) dX12_movesRow_4 (by decide) (by have e := hN.cell (k := q) hq1 hq2 hq3 hq4 hq5 hq6; rw [setA_ne hq7] at e; exact e) ?_
    refine x_icmpN_ge (tgt := 24) dX12_movesRow_5 (by decide) (by omega) (by omega) (fun c5 => ?_) (fun c5 => ?_)
    · exact x_vret dX12_movesRow_24 rfl (xEx_i G1 hN rfl rfl rfl)
    · exact absurd c5 (by omega)
  | succ i ih =>
    intro k G1 hi hN
    refine x_iload_n dX12_movesRow_2 0 rfl ?_
    refine x_aload_n dX12_movesRow_3 2 rfl ?_
    refine x_alen (t := 0) (n := mln q) (f := X q) dX12_movesRow_4 (by decide) (by have e := hN.cell (k := q) hq1 hq2 hq3 hq4 hq5 hq6; rw [setA_ne hq7] at e; exact e) ?_
    refine x_icmpN_ge (tgt := 24) dX12_movesRow_5 (by decide) (by omega) (by omega) (fun c5 => ?_) (fun c5 => ?_)
    · exact absurd c5 (by omega)
    · refine x_aload_n dX12_movesRow_8 2 rfl ?_
      refine x_iload_n dX12_movesRow_9 0 rfl ?_
      refine x_aload_n dX12_movesRow_10 1 rfl ?_
      refine x_aload_n dX12_movesRow_11 2 rfl ?_
      refine x_iload_n dX12_movesRow_12 0 rfl ?_
      refine x_pc (pc' := 13) rfl ?_
      refine x_ialdN (n := mln q) (f := X q) dX12_movesRow_13 (by have e := hN.cell (k := q) hq1 hq2 hq3 hq4 hq5 hq6; rw [setA_ne hq7] at e; exact e) (by omega) (by omega) ?_
      refine x_cVe (N := mX12_moves) (d' := 0) (mc := 0) (ms := 0) (cb := 0) (sb := 0) (As := [.int (X q k)]) (st := [.int (nI k), .ref (y + q)]) dX12_movesRow_14 mX12_moves_v lX12_414 rfl rfl (hN.1) rfl (by decide) (Nat.le_of_ble_eq_true rfl) (Md_moves0 (pp := pp + k) hN (by omega) (lay_sX rfl)) rfl (sf := fun G2 => [.int (X q k), .int (nI k), .ref (y + q)]) (fun _ => rfl) (fun G2 hN2 => ?_)
      refine x_iastN (n := mln q) (f := X q) dX12_movesRow_17 (by have e := hN2.cell (k := q) hq1 hq2 hq3 hq4 hq5 hq6; rw [setA_ne hq7] at e; exact e) (by omega) (by omega) ?_
      refine x_gen (P := fun G' => RW G0 G' y (setA X 37 (layF (X 37) (X q) pp (k + 1))) (mF F 0 (pp + (k + 1))) wa sa) (by have e := hN2.arr (k := q) hq1 hq2 hq3 hq4 hq5 hq6 (upd (X q) k (X q k)); rw [show setA (setA X 37 (layF (X 37) (X q) pp (k + 1))) q (upd (X q) k (X q k)) = (setA X 37 (layF (X 37) (X q) pp (k + 1))) from by rw [upd_self, setA_self (setA_ne hq7)]] at e; exact e) (fun G4 hR4 => ?_)
      refine x_iinc (v := nI (k + 1)) (ls' := [(2, .int (nI (k + 1))), (0, .ref y), (1, .ref (y + q))]) dX12_movesRow_18 0 rfl (nIs _) (by decide) rfl ?_
      refine x_goto (tgt := 2) dX12_movesRow_21 (by decide) ?_
      exact ih (k + 1) _ (by omega) hR4
theorem Md_mrow0 {K : xG} {h y pp q : Nat} {G0 G : xHp} {X : Nat → Nat → Int32} {F : Nat → Int32} {wa sa : Nat → Int64} (hq1 : 1 ≤ q) (hq2 : q ≤ 45) (hq3 : q ≠ 27) (hq4 : q ≠ 35) (hq5 : q ≠ 36) (hq6 : q ≠ 45) (hq7 : q ≠ 37) (hpn : pp + mln q ≤ 700) (hR : RW G0 G y X (mF F 0 pp) wa sa) : xCall K mX12_movesRow 1 0 0 [.ref y, .ref (y + q)] h G (rwQ G0 h y (setA X 37 (layF (X 37) (X q) pp (mln q))) (mF F 0 (pp + mln q)) wa sa) := by
  refine x_entry (by decide) (ls := [(0, .ref y), (1, .ref (y + q))]) rfl (Nat.le_of_ble_eq_true rfl) ?_
  refine x_iconst dX12_movesRow_0 ki_0 ?_
  refine x_istore_n (ls' := [(2, .int (nI 0)), (0, .ref y), (1, .ref (y + q))]) dX12_movesRow_1 (by decide) rfl ?_
  exact Md_mrow0_loop hq1 hq2 hq3 hq4 hq5 hq6 hq7 hpn (mln q) 0 G (by omega) (by rw [layF_0, setA_self rfl]; exact hR)
theorem Md_moves1 {K : xG} {h y pp : Nat} {G0 G : xHp} {X : Nat → Nat → Int32} {F : Nat → Int32} {wa sa : Nat → Int64} {w v : Int32} (hR : RW G0 G y X (mF F 1 pp) wa sa) (hp : pp < 700) (hv : X 37 pp = v) : xCall K mX12_moves 0 0 0 [.ref y, .int w] h G (xEx (fun G' => RW G0 G' y X (mF F 1 (pp + 1)) wa sa) (fun _ => some (.int v)) (fun _ => h) (fun G' => G')) := by
  refine x_entry (by decide) (ls := [(0, .ref y), (1, .int w)]) rfl (Nat.le_of_ble_eq_true rfl) ?_
  refine x_aload_n dX12_moves_0 0 rfl ?_
  refine x_get (v := .int (nI 1)) dX12_moves_1 fX12_407 (hR.1) rfl ?_
  refine x_ifN_eq (tgt := 19) dX12_moves_4 (by decide) (by omega) (fun c4 => ?_) (fun c4 => ?_)
  · exact absurd c4 (by decide)
  · refine x_aload_n dX12_moves_7 0 rfl ?_
    refine x_get (v := .ref (y + 37)) dX12_moves_8 fX12_124 (hR.1) rfl ?_
    refine x_aload_n dX12_moves_11 0 rfl ?_
    refine x_get (v := .int (nI pp)) dX12_moves_12 fX12_411 (hR.1) rfl ?_
    refine x_ialdN (n := 700) (f := X 37) dX12_moves_15 (hR.cell (k := 37) (by decide) (by decide) (by decide) (by decide) (by decide) (by decide)) (by omega) (by decide) ?_
    refine x_topi (y := v) hv ?_
    refine x_goto (tgt := 20) dX12_moves_16 (by decide) ?_
    refine x_pc (pc' := 20) rfl ?_
    refine x_istore_n (ls' := [(2, .int v), (0, .ref y), (1, .int w)]) dX12_moves_20 (by decide) rfl ?_
    refine x_aload_n dX12_moves_21 1 rfl ?_
    refine x_get (v := .ref (y + 37)) dX12_moves_22 fX12_124 (hR.1) rfl ?_
    refine x_aload_n dX12_moves_25 1 rfl ?_
    refine x_get (v := .int (nI pp)) dX12_moves_26 fX12_411 (hR.1) rfl ?_
    refine x_iload_n dX12_moves_29 0 rfl ?_
    refine x_iastN (n := 700) (f := X 37) dX12_moves_30 (hR.cell (k := 37) (by decide) (by decide) (by decide) (by decide) (by decide) (by decide)) (by omega) (by decide) ?_
    refine x_gen (P := fun G' => RW G0 G' y X (mF F 1 pp) wa sa) (by have e := hR.arr (k := 37) (by decide) (by decide) (by decide) (by decide) (by decide) (by decide) (upd (X 37) pp v); rw [show setA X 37 (upd (X 37) pp v) = X from by rw [← hv, upd_self, setA_self rfl]] at e; exact e) (fun G1 hR1 => ?_)
    refine x_aload_n dX12_moves_31 1 rfl ?_
    refine x_dup dX12_moves_32 rfl ?_
    refine x_get (v := .int (nI pp)) dX12_moves_33 fX12_411 (hR1.1) rfl ?_
    refine x_pc (pc' := 36) rfl ?_
    refine x_iconst dX12_moves_36 ki_1 ?_
    refine x_iaddN dX12_moves_37 ?_
    refine x_put (fs' := [.int (F 0), .ref (y + 1), .ref (y + 2), .ref (y + 3), .ref (y + 4), .ref (y + 5), .ref (y + 6), .ref (y + 7), .ref (y + 8), .ref (y + 9), .ref (y + 10), .ref (y + 11), .ref (y + 12), .ref (y + 13), .ref (y + 14), .ref (y + 15), .ref (y + 16), .ref (y + 17), .ref (y + 18), .ref (y + 19), .ref (y + 20), .ref (y + 21), .ref (y + 22), .ref (y + 23), .ref (y + 24), .ref (y + 25), .ref (y + 26), .int (F 27), .int (F 28), .int (F 29), .int (F 30), .int (F 31), .int (F 32), .int (F 33), .int (F 34), .int (F 35), .int (F 36), .ref (y + 27), .ref (y + 28), .ref (y + 29), .ref (y + 30), .ref (y + 31), .ref (y + 32), .ref (y + 33), .ref (y + 34), .ref (y + 35), .ref (y + 36), .ref (y + 37), .ref (y + 38), .int (F 49), .int (nI (pp + 1)), .int (nI 1), .int (F 52), .int (F 53), .ref (y + 39), .ref (y + 40), .ref (y + 41), .int (F 57), .int (F 58), .ref (y + 42), .ref (y + 43), .ref (y + 44), .ref (y + 45), .int (F 63), .int (F 64)]) dX12_moves_38 fX12_411 (hR1.1) (Nat.le_of_ble_eq_true rfl) rfl rfl rfl ?_
    refine x_geq (G' := xup _ y (modO y (mF F 1 (pp + 1)))) rfl ?_
    refine x_gen (P := fun G' => RW G0 G' y X (mF F 1 (pp + 1)) wa sa) (hR1.fld (mF F 1 (pp + 1))) (fun G2 hR2 => ?_)
    refine x_iload_n dX12_moves_41 0 rfl ?_
    exact x_iret dX12_moves_42 rfl (xEx_i G2 hR2 rfl rfl rfl)
theorem Md_mrow1_loop {K : xG} {h y pp q : Nat} {G0 : xHp} {X : Nat → Nat → Int32} {F : Nat → Int32} {wa sa : Nat → Int64} (hq1 : 1 ≤ q) (hq2 : q ≤ 45) (hq3 : q ≠ 27) (hq4 : q ≠ 35) (hq5 : q ≠ 36) (hq6 : q ≠ 45) (hq7 : q ≠ 37) (hpn : pp + mln q ≤ 700) : ∀ (i k : Nat) (G1 : xHp), k + i = mln q → RW G0 G1 y (setA X q (ldF (X 37) (X q) pp k)) (mF F 1 (pp + k)) wa sa → xV K mX12_movesRow 1 0 0 h G1 2 [(2, .int (nI k)), (0, .ref y), (1, .ref (y + q))] [] (rwQ G0 h y (setA X q (ldF (X 37) (X q) pp (mln q))) (mF F 1 (pp + mln q)) wa sa) := by
  intro i
  induction i with
  | zero =>
    intro k G1 hi hN
    have hi0 : k = mln q := by omega
    subst hi0
    refine x_iload_n dX12_movesRow_2 0 rfl ?_
    refine x_aload_n dX12_movesRow_3 2 rfl ?_
    refine x_alen (t := 0) (n := mln q) (f := ldF (X 37) (X q) pp (mln q)) dX12_movesRow_4 (by decide) (by have e := hN.cell (k := q) hq1 hq2 hq3 hq4 hq5 hq6; rw [setA_at] at e; exact e) ?_
    refine x_icmpN_ge (tgt := 24) dX12_movesRow_5 (by decide) (by omega) (by omega) (fun c5 => ?_) (fun c5 => ?_)
    · exact x_vret dX12_movesRow_24 rfl (xEx_i G1 hN rfl rfl rfl)
    · exact absurd c5 (by omega)
  | succ i ih =>
    intro k G1 hi hN
    refine x_iload_n dX12_movesRow_2 0 rfl ?_
    refine x_aload_n dX12_movesRow_3 2 rfl ?_
    refine x_alen (t := 0) (n := mln q) (f := ldF (X 37) (X q) pp k) dX12_movesRow_4 (by decide) (by have e := hN.cell (k := q) hq1 hq2 hq3 hq4 hq5 hq6; rw [setA_at] at e; exact e) ?_
    refine x_icmpN_ge (tgt := 24) dX12_movesRow_5 (by decide) (by omega) (by omega) (fun c5 => ?_) (fun c5 => ?_)
    · exact absurd c5 (by omega)
    · refine x_aload_n dX12_movesRow_8 2 rfl ?_
      refine x_iload_n dX12_movesRow_9 0 rfl ?_
      refine x_aload_n dX12_movesRow_10 1 rfl ?_
      refine x_aload_n dX12_movesRow_11 2 rfl ?_
      refine x_iload_n dX12_movesRow_12 0 rfl ?_
      refine x_pc (pc' := 13) rfl ?_
      refine x_ialdN (n := mln q) (f := ldF (X 37) (X q) pp k) dX12_movesRow_13 (by have e := hN.cell (k := q) hq1 hq2 hq3 hq4 hq5 hq6; rw [setA_at] at e; exact e) (by omega) (by omega) ?_
      refine x_cVe (N := mX12_moves) (d' := 0) (mc := 0) (ms := 0) (cb := 0) (sb := 0) (As := [.int (ldF (X 37) (X q) pp k k)]) (st := [.int (nI k), .ref (y + q)]) dX12_movesRow_14 mX12_moves_v lX12_414 rfl rfl (hN.1) rfl (by decide) (Nat.le_of_ble_eq_true rfl) (Md_moves1 (pp := pp + k) (v := X 37 (pp + k)) hN (by omega) (by rw [setA_ne (Ne.symm hq7)])) rfl (sf := fun G2 => [.int (X 37 (pp + k)), .int (nI k), .ref (y + q)]) (fun _ => rfl) (fun G2 hN2 => ?_)
      refine x_iastN (n := mln q) (f := ldF (X 37) (X q) pp k) dX12_movesRow_17 (by have e := hN2.cell (k := q) hq1 hq2 hq3 hq4 hq5 hq6; rw [setA_at] at e; exact e) (by omega) (by omega) ?_
      refine x_gen (P := fun G' => RW G0 G' y (setA X q (ldF (X 37) (X q) pp (k + 1))) (mF F 1 (pp + (k + 1))) wa sa) (by have e := hN2.arr (k := q) hq1 hq2 hq3 hq4 hq5 hq6 (upd (ldF (X 37) (X q) pp k) k (X 37 (pp + k))); rw [ld_sX] at e; exact e) (fun G4 hR4 => ?_)
      refine x_iinc (v := nI (k + 1)) (ls' := [(2, .int (nI (k + 1))), (0, .ref y), (1, .ref (y + q))]) dX12_movesRow_18 0 rfl (nIs _) (by decide) rfl ?_
      refine x_goto (tgt := 2) dX12_movesRow_21 (by decide) ?_
      exact ih (k + 1) _ (by omega) hR4
theorem Md_mrow1 {K : xG} {h y pp q : Nat} {G0 G : xHp} {X : Nat → Nat → Int32} {F : Nat → Int32} {wa sa : Nat → Int64} (hq1 : 1 ≤ q) (hq2 : q ≤ 45) (hq3 : q ≠ 27) (hq4 : q ≠ 35) (hq5 : q ≠ 36) (hq6 : q ≠ 45) (hq7 : q ≠ 37) (hpn : pp + mln q ≤ 700) (hR : RW G0 G y X (mF F 1 pp) wa sa) : xCall K mX12_movesRow 1 0 0 [.ref y, .ref (y + q)] h G (rwQ G0 h y (setA X q (ldF (X 37) (X q) pp (mln q))) (mF F 1 (pp + mln q)) wa sa) := by
  refine x_entry (by decide) (ls := [(0, .ref y), (1, .ref (y + q))]) rfl (Nat.le_of_ble_eq_true rfl) ?_
  refine x_iconst dX12_movesRow_0 ki_0 ?_
  refine x_istore_n (ls' := [(2, .int (nI 0)), (0, .ref y), (1, .ref (y + q))]) dX12_movesRow_1 (by decide) rfl ?_
  exact Md_mrow1_loop hq1 hq2 hq3 hq4 hq5 hq6 hq7 hpn (mln q) 0 G (by omega) (by rw [ldF_0, setA_self rfl]; exact hR)
