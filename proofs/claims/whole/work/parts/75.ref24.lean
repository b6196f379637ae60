theorem Md_blanks_loop {K : xG} {h y : Nat} {G0 : xHp} {hl : xHl} {r : xRw} {sc : Nat × Nat × Int32} {A : Nat → Nat → Int32} {F : Nat → Int32} {wa sa : Nat → Int64} {tn f sl en de co op : Nat} {e : Nat} {tp : Nat → Nat} (hT : ∀ j, j < 400 → A 27 j &&& nI 255 = nI (tp j)) (hlt : ∀ j, tp j < 256) (htn : tn ≤ 400) : ∀ (i p : Nat) (G1 : xHp), p + i = tn → runF (blB tp) i p = e → MW G0 G1 y hl r sc A (pF F tn p f sl en de co op) wa sa → xV K mX12_blanks 1 0 0 h G1 0 [(0, .ref y)] [] (mdQ G0 h y none hl r sc A (pF F tn e f sl en de co op) wa sa) := by
  intro i
  induction i with
  | zero =>
    intro p G1 hi he hN
    have he0 : e = p := he.symm
    subst he0
    refine x_aload_n dX12_blanks_0 0 rfl ?_
    refine x_cV (N := mX12_sign) (d' := 0) (mc := 0) (ms := 0) (cb := 0) (sb := 0) (As := []) (st := []) dX12_blanks_1 mX12_sign_v lX12_193 rfl rfl (hN.1) rfl (by decide) (Nat.le_of_ble_eq_true rfl) (Md_sign_o hN htn (by omega) (by omega)) rfl (st1 := [.int (-1)]) rfl ?_
    refine x_bipush dX12_blanks_4 kb_32 ?_
    refine x_icmp_ne (x := (-1)) (y := nI 32) (tgt := 22) dX12_blanks_6 (by decide) (fun c6 => ?_) (fun c6 => ?_)
    · exact x_vret dX12_blanks_22 rfl (xEx_i G1 hN rfl rfl rfl)
    · exact absurd c6 (by decide)
  | succ i ih =>
    intro p G1 hi he hN
    have hlp := hlt p
    refine x_aload_n dX12_blanks_0 0 rfl ?_
    refine x_cV (N := mX12_sign) (d' := 0) (mc := 0) (ms := 0) (cb := 0) (sb := 0) (As := []) (st := []) dX12_blanks_1 mX12_sign_v lX12_193 rfl rfl (hN.1) rfl (by decide) (Nat.le_of_ble_eq_true rfl) (Md_sign_i hN hT htn (by omega)) rfl (st1 := [.int (nI (tp p))]) rfl ?_
    refine x_bipush dX12_blanks_4 kb_32 ?_
    refine x_icmpN_ne (tgt := 22) dX12_blanks_6 (by decide) (by omega) (by omega) (fun c6 => ?_) (fun c6 => ?_)
    · have he0 : e = p := he.symm.trans (if_neg (fun q => c6 (of_decide_eq_true q)))
      subst he0
      exact x_vret dX12_blanks_22 rfl (xEx_i G1 hN rfl rfl rfl)
    · refine x_aload_n dX12_blanks_9 0 rfl ?_
      refine x_dup dX12_blanks_10 rfl ?_
      refine x_get (v := .int (nI p)) dX12_blanks_11 fX12_190 (hN.1) rfl ?_
      refine x_iconst dX12_blanks_14 ki_1 ?_
      refine x_iaddN dX12_blanks_15 ?_
      refine x_pc (pc' := 16) rfl ?_
      refine x_put (fs' := [.int (F 0), .ref (y + 1), .ref (y + 2), .ref (y + 3), .ref (y + 4), .ref (y + 5), .ref (y + 6), .ref (y + 7), .ref (y + 8), .ref (y + 9), .ref (y + 10), .ref (y + 11), .ref (y + 12), .ref (y + 13), .ref (y + 14), .ref (y + 15), .ref (y + 16), .ref (y + 17), .ref (y + 18), .ref (y + 19), .ref (y + 20), .ref (y + 21), .ref (y + 22), .ref (y + 23), .ref (y + 24), .ref (y + 25), .ref (y + 26), .int (nI tn), .int (nI (p + 1)), .int (nI f), .int (nI sl), .int (F 31), .int (nI en), .int (nI de), .int (nI co), .int (nI op), .int (F 36), .ref (y + 27), .ref (y + 28), .ref (y + 29), .ref (y + 30), .ref (y + 31), .ref (y + 32), .ref (y + 33), .ref (y + 34), .ref (y + 35), .ref (y + 36), .ref (y + 37), .ref (y + 38), .int (F 49), .int (F 50), .int (F 51), .int (F 52), .int (F 53), .ref (y + 39), .ref (y + 40), .ref (y + 41), .int (F 57), .int (F 58), .ref (y + 42), .ref (y + 43), .ref (y + 44), .ref (y + 45), .int (F 63), .int (F 64)]) dX12_blanks_16 fX12_190 (hN.1) (Nat.le_of_ble_eq_true rfl) rfl rfl rfl ?_
      refine x_geq (G' := xup _ y (modO y (pF F tn (p + 1) f sl en de co op))) rfl ?_
      have hM1 := hN.fld (pF F tn (p + 1) f sl en de co op)
      refine x_goto (tgt := 0) dX12_blanks_19 (by decide) ?_
      exact ih (p + 1) _ (by omega) ((if_pos (decide_eq_true c6)).symm.trans he) hM1
theorem Md_blanks {K : xG} {h y : Nat} {G0 G : xHp} {hl : xHl} {r : xRw} {sc : Nat × Nat × Int32} {A : Nat → Nat → Int32} {F : Nat → Int32} {wa sa : Nat → Int64} {tn p f sl en de co op : Nat} {tp : Nat → Nat} (hT : ∀ j, j < 400 → A 27 j &&& nI 255 = nI (tp j)) (hlt : ∀ j, tp j < 256) (htn : tn ≤ 400) (hM : MW G0 G y hl r sc A (pF F tn p f sl en de co op) wa sa) (hp : p ≤ tn) : xCall K mX12_blanks 1 0 0 [.ref y] h G (mdQ G0 h y none hl r sc A (pF F tn (skP tp tn p) f sl en de co op) wa sa) := by
  refine x_entry (by decide) (ls := [(0, .ref y)]) rfl (Nat.le_of_ble_eq_true rfl) ?_
  exact Md_blanks_loop hT hlt htn (tn - p) p G (by omega) rfl hM
