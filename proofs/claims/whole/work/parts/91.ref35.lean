theorem Md_amount1 {K : xG} {h y : Nat} {G0 G : xHp} {hl : xHl} {r : xRw} {sc : Nat × Nat × Int32} {A : Nat → Nat → Int32} {F : Nat → Int32} {wa sa : Nat → Int64} {tn p f sl en de co op : Nat} {q a : Nat} {hi : Int32} {tp : Nat → Nat} (hT : TpE (A 27) tp) (hlt : ∀ j, tp j < 256) (htn : tn ≤ 400) (hM : MW G0 G y hl r sc A (pF F tn p f sl en de co op) wa sa) (hp2 : p ≤ tn + 2) (hf9 : f < 1000000) (hf0 : f ≠ 0) : xCall K mX12_amount 3 0 0 [.ref y, .int (nI a), .int hi] h G (xEx (fun e : (Nat × Nat) × xHp => MW G0 e.2 y hl r sc A (pF F tn e.1.2 (tnP tp tn f q (nI a) hi).1 sl en de co op) wa sa ∧ e.1.1 < 100000 ∧ e.1.2 ≤ tn + 2 ∧ (tnP tp tn f q (nI a) hi).1 < 1000000 ∧ ((tnP tp tn f q (nI a) hi).1 = 0 → e.1.2 ≤ tn ∧ skP tp tn e.1.2 = skP tp tn (tnP tp tn f q (nI a) hi).2 ∧ e.1.1 = nmN tp tn q)) (fun e => some (.int (nI e.1.1))) (fun _ => h) (fun e => e.2)) := by
  refine x_entry (by decide) (ls := [(0, .ref y), (1, .int (nI a)), (2, .int hi)]) rfl (Nat.le_of_ble_eq_true rfl) ?_
  have hsk := sk_p2 (tp := tp) hp2
  refine x_aload_n dX12_amount_0 0 rfl ?_
  refine x_cVe (N := mX12_blanks) (d' := 1) (mc := 0) (ms := 0) (cb := 0) (sb := 0) (As := []) (st := []) dX12_amount_1 mX12_blanks_v lX12_210 rfl rfl (hM.1) rfl (by decide) (Nat.le_of_ble_eq_true rfl) (Md_blanksA hT hlt htn hM (by omega)) rfl (sf := fun G1 => []) (fun _ => rfl) (fun G1 hN1 => ?_)
  refine x_aload_n dX12_amount_4 0 rfl ?_
  refine x_get (v := .int (nI (skP tp tn p))) dX12_amount_5 fX12_190 (hN1.1) rfl ?_
  refine x_istore_n (ls' := [(3, .int (nI (skP tp tn p))), (0, .ref y), (1, .int (nI a)), (2, .int hi)]) dX12_amount_8 (by decide) rfl ?_
  refine x_aload_n dX12_amount_9 1 rfl ?_
  refine x_get (v := .int (nI f)) dX12_amount_10 fX12_187 (hN1.1) rfl ?_
  refine x_ifN_ne (tgt := 25) dX12_amount_13 (by decide) (by omega) (fun c13 => ?_) (fun c13 => ?_)
  · refine x_iconst dX12_amount_25 ki_0 ?_
    refine x_pc (pc' := 26) rfl ?_
    refine x_istore (ls' := [(4, .int (nI 0)), (3, .int (nI (skP tp tn p))), (0, .ref y), (1, .int (nI a)), (2, .int hi)]) dX12_amount_26 (by decide) rfl ?_
    refine x_aload_n dX12_amount_28 2 rfl ?_
    refine x_get (v := .int (nI f)) dX12_amount_29 fX12_187 (hN1.1) rfl ?_
    refine x_ifN_ne (tgt := 54) dX12_amount_32 (by decide) (by omega) (fun c32 => ?_) (fun c32 => ?_)
    · refine x_iload dX12_amount_54 0 rfl ?_
      exact x_iret dX12_amount_56 rfl (xEx_i ((0, (skP tp tn p)), G1) ⟨by rw [tn_1 hf0]; exact hN1, by show 0 < 100000; decide, hsk.1, by rw [tn_1 hf0]; exact hf9, fun q0 => absurd (by rw [tn_1 hf0] at q0; exact q0) hf0⟩ rfl rfl rfl)
    · exact absurd c32 hf0
  · exact absurd c13 hf0
theorem Md_amount2 {K : xG} {h y : Nat} {G0 G : xHp} {hl : xHl} {r : xRw} {sc : Nat × Nat × Int32} {A : Nat → Nat → Int32} {F : Nat → Int32} {wa sa : Nat → Int64} {tn p sl en de co op : Nat} {q a : Nat} {hi : Int32} {tp : Nat → Nat} (hT : TpE (A 27) tp) (hlt : ∀ j, tp j < 256) (htn : tn ≤ 400) (hM : MW G0 G y hl r sc A (pF F tn p 0 sl en de co op) wa sa) (hp2 : p ≤ tn) (hq : (skP tp tn p) = skP tp tn q) (hdg : dgB tp tn (skP tp tn p) = false) : xCall K mX12_amount 3 0 0 [.ref y, .int (nI a), .int hi] h G (xEx (fun e : (Nat × Nat) × xHp => MW G0 e.2 y hl r sc A (pF F tn e.1.2 (tnP tp tn 0 q (nI a) hi).1 sl en de co op) wa sa ∧ e.1.1 < 100000 ∧ e.1.2 ≤ tn + 2 ∧ (tnP tp tn 0 q (nI a) hi).1 < 1000000 ∧ ((tnP tp tn 0 q (nI a) hi).1 = 0 → e.1.2 ≤ tn ∧ skP tp tn e.1.2 = skP tp tn (tnP tp tn 0 q (nI a) hi).2 ∧ e.1.1 = nmN tp tn q)) (fun e => some (.int (nI e.1.1))) (fun _ => h) (fun e => e.2)) := by
  refine x_entry (by decide) (ls := [(0, .ref y), (1, .int (nI a)), (2, .int hi)]) rfl (Nat.le_of_ble_eq_true rfl) ?_
  have hsk := sk_le (tp := tp) hp2
  have hkd : kdA tp tn (skP tp tn q) ≠ 2 := fun q0 => by rw [← hq] at q0; exact absurd (hdg.symm.trans (dgB_kd.mpr q0)) (by decide)
  refine x_aload_n dX12_amount_0 0 rfl ?_
  refine x_cVe (N := mX12_blanks) (d' := 1) (mc := 0) (ms := 0) (cb := 0) (sb := 0) (As := []) (st := []) dX12_amount_1 mX12_blanks_v lX12_210 rfl rfl (hM.1) rfl (by decide) (Nat.le_of_ble_eq_true rfl) (Md_blanksA hT hlt htn hM (by omega)) rfl (sf := fun G1 => []) (fun _ => rfl) (fun G1 hN1 => ?_)
  refine x_aload_n dX12_amount_4 0 rfl ?_
  refine x_get (v := .int (nI (skP tp tn p))) dX12_amount_5 fX12_190 (hN1.1) rfl ?_
  refine x_istore_n (ls' := [(3, .int (nI (skP tp tn p))), (0, .ref y), (1, .int (nI a)), (2, .int hi)]) dX12_amount_8 (by decide) rfl ?_
  refine x_aload_n dX12_amount_9 1 rfl ?_
  refine x_get (v := .int (nI 0)) dX12_amount_10 fX12_187 (hN1.1) rfl ?_
  refine x_ifN_ne (tgt := 25) dX12_amount_13 (by decide) (by omega) (fun c13 => ?_) (fun c13 => ?_)
  · exact absurd c13 (by decide)
  · refine x_aload_n dX12_amount_16 1 rfl ?_
    refine x_pc (pc' := 17) rfl ?_
    refine x_ldc dX12_amount_17 cX12_234 ?_
    refine x_topi (y := nI 99999) (by decide) ?_
    refine x_cVe (N := mX12_digits) (d' := 2) (mc := 0) (ms := 0) (cb := 0) (sb := 0) (As := [.int (nI 99999)]) (st := []) dX12_amount_19 mX12_digits_v lX12_235 rfl rfl (hN1.1) rfl (by decide) (Nat.le_of_ble_eq_true rfl) (Md_digits_n hT hlt htn hN1 (by omega) (by decide) hdg) rfl (sf := fun G2 => [.int (nI 0)]) (fun _ => rfl) (fun G2 hN2 => ?_)
    refine x_goto (tgt := 26) dX12_amount_22 (by decide) ?_
    refine x_istore (ls' := [(4, .int (nI 0)), (3, .int (nI (skP tp tn p))), (0, .ref y), (1, .int (nI a)), (2, .int hi)]) dX12_amount_26 (by decide) rfl ?_
    refine x_aload_n dX12_amount_28 2 rfl ?_
    refine x_get (v := .int (nI (flt 0 0 (skP tp tn p)))) dX12_amount_29 fX12_187 (hN2.1) rfl ?_
    refine x_ifN_ne (tgt := 54) dX12_amount_32 (by decide) (by rw [flt_z]; omega) (fun c32 => ?_) (fun c32 => ?_)
    · refine x_iload dX12_amount_54 0 rfl ?_
      exact x_iret dX12_amount_56 rfl (xEx_i ((0, (skP tp tn p)), G2) ⟨by rw [tn_2 hkd]; show MW _ _ _ _ _ _ _ (pF F tn _ (flP tp tn 0 q 0) sl en de co op) _ _; rw [flP_z, ← hq]; rw [flt_z] at hN2; exact hN2, by show 0 < 100000; decide, by show (skP tp tn p) ≤ _; omega, by rw [tn_2 hkd]; show flP tp tn 0 q 0 < _; rw [flP_z]; omega, fun q0 => absurd (by rw [tn_2 hkd] at q0; exact q0) flP_ne⟩ rfl rfl rfl)
    · exact absurd c32 (by rw [flt_z]; omega)
theorem Md_amount3 {K : xG} {h y : Nat} {G0 G : xHp} {hl : xHl} {r : xRw} {sc : Nat × Nat × Int32} {A : Nat → Nat → Int32} {F : Nat → Int32} {wa sa : Nat → Int64} {tn p sl en de co op : Nat} {q a : Nat} {hi : Int32} {tp : Nat → Nat} (hT : TpE (A 27) tp) (hlt : ∀ j, tp j < 256) (htn : tn ≤ 400) (hM : MW G0 G y hl r sc A (pF F tn p 0 sl en de co op) wa sa) (hp2 : p ≤ tn) (hq : (skP tp tn p) = skP tp tn q) (ha31 : a < 2 ^ 31) (hdg : dgB tp tn (skP tp tn p) = true) : xCall K mX12_amount 3 0 0 [.ref y, .int (nI a), .int hi] h G (xEx (fun e : (Nat × Nat) × xHp => MW G0 e.2 y hl r sc A (pF F tn e.1.2 (tnP tp tn 0 q (nI a) hi).1 sl en de co op) wa sa ∧ e.1.1 < 100000 ∧ e.1.2 ≤ tn + 2 ∧ (tnP tp tn 0 q (nI a) hi).1 < 1000000 ∧ ((tnP tp tn 0 q (nI a) hi).1 = 0 → e.1.2 ≤ tn ∧ skP tp tn e.1.2 = skP tp tn (tnP tp tn 0 q (nI a) hi).2 ∧ e.1.1 = nmN tp tn q)) (fun e => some (.int (nI e.1.1))) (fun _ => h) (fun e => e.2)) := by
  refine x_entry (by decide) (ls := [(0, .ref y), (1, .int (nI a)), (2, .int hi)]) rfl (Nat.le_of_ble_eq_true rfl) ?_
  have hsk := sk_le (tp := tp) hp2
  have hkd := dgB_kd.mp hdg
  have hkq : kdA tp tn (skP tp tn q) = 2 := by rw [← hq]; exact hkd
  obtain ⟨am1, am2⟩ := am_y (hi := hi) hkd hq ha31
  have hrl := runF_le (isDg tp) (tn - (skP tp tn p)) (skP tp tn p)
  have hdv := dvN_lt' (tp := tp) (n := tn) (p := (skP tp tn p))
  have hdf := dgF_lt (tp := tp) (n := tn) (p := (skP tp tn p)) (f := 0) (by decide) (by omega)
  refine x_aload_n dX12_amount_0 0 rfl ?_
  refine x_cVe (N := mX12_blanks) (d' := 1) (mc := 0) (ms := 0) (cb := 0) (sb := 0) (As := []) (st := []) dX12_amount_1 mX12_blanks_v lX12_210 rfl rfl (hM.1) rfl (by decide) (Nat.le_of_ble_eq_true rfl) (Md_blanksA hT hlt htn hM (by omega)) rfl (sf := fun G1 => []) (fun _ => rfl) (fun G1 hN1 => ?_)
  refine x_aload_n dX12_amount_4 0 rfl ?_
  refine x_get (v := .int (nI (skP tp tn p))) dX12_amount_5 fX12_190 (hN1.1) rfl ?_
  refine x_istore_n (ls' := [(3, .int (nI (skP tp tn p))), (0, .ref y), (1, .int (nI a)), (2, .int hi)]) dX12_amount_8 (by decide) rfl ?_
  refine x_aload_n dX12_amount_9 1 rfl ?_
  refine x_get (v := .int (nI 0)) dX12_amount_10 fX12_187 (hN1.1) rfl ?_
  refine x_ifN_ne (tgt := 25) dX12_amount_13 (by decide) (by omega) (fun c13 => ?_) (fun c13 => ?_)
  · exact absurd c13 (by decide)
  · refine x_aload_n dX12_amount_16 1 rfl ?_
    refine x_pc (pc' := 17) rfl ?_
    refine x_ldc dX12_amount_17 cX12_234 ?_
    refine x_topi (y := nI 99999) (by decide) ?_
    refine x_cVe (N := mX12_digits) (d' := 2) (mc := 0) (ms := 0) (cb := 0) (sb := 0) (As := [.int (nI 99999)]) (st := []) dX12_amount_19 mX12_digits_v lX12_235 rfl rfl (hN1.1) rfl (by decide) (Nat.le_of_ble_eq_true rfl) (Md_digits_y hT hlt htn hN1 (by decide) hdg) rfl (sf := fun G2 => [.int (nI (dvN tp (skP tp tn p) ((runF (isDg tp) (tn - (skP tp tn p)) (skP tp tn p)) - (skP tp tn p))))]) (fun _ => rfl) (fun G2 hN2 => ?_)
    refine x_goto (tgt := 26) dX12_amount_22 (by decide) ?_
    refine x_istore (ls' := [(4, .int (nI (dvN tp (skP tp tn p) ((runF (isDg tp) (tn - (skP tp tn p)) (skP tp tn p)) - (skP tp tn p))))), (3, .int (nI (skP tp tn p))), (0, .ref y), (1, .int (nI a)), (2, .int hi)]) dX12_amount_26 (by decide) rfl ?_
    refine x_aload_n dX12_amount_28 2 rfl ?_
    refine x_get (v := .int (nI (dgF tp tn (skP tp tn p) 0))) dX12_amount_29 fX12_187 (hN2.1) rfl ?_
    refine x_ifN_ne (tgt := 54) dX12_amount_32 (by decide) (by omega) (fun c32 => ?_) (fun c32 => ?_)
    · have h5 : 5 < (runF (isDg tp) (tn - (skP tp tn p)) (skP tp tn p)) - (skP tp tn p) := Nat.lt_of_not_le (fun q0 => c32 (dgF_0 (by omega)))
      obtain ⟨g1, g2⟩ := am1 h5
      refine x_iload dX12_amount_54 0 rfl ?_
      exact x_iret dX12_amount_56 rfl (xEx_i (((dvN tp (skP tp tn p) ((runF (isDg tp) (tn - (skP tp tn p)) (skP tp tn p)) - (skP tp tn p))), (runF (isDg tp) (tn - (skP tp tn p)) (skP tp tn p))), G2) ⟨by rw [g1]; exact hN2, hdv, by show (runF (isDg tp) (tn - (skP tp tn p)) (skP tp tn p)) ≤ _; omega, by rw [g1]; exact hdf, fun q0 => absurd (g1.symm.trans q0) g2⟩ rfl rfl rfl)
    · have h5 : ¬ 5 < (runF (isDg tp) (tn - (skP tp tn p)) (skP tp tn p)) - (skP tp tn p) := fun q0 => by rw [dgF_5 q0] at c32; omega
      obtain ⟨g1, g2, g3, g4⟩ := am2 h5
      have hN3 := hN2
      rw [dgF_0 h5] at hN3
      refine x_iload dX12_amount_35 0 rfl ?_
      refine x_i2l dX12_amount_37 ?_
      refine x_iload_n dX12_amount_38 3 rfl ?_
      refine x_pc (pc' := 39) rfl ?_
      refine x_i2l dX12_amount_39 ?_
      refine x_iload_n dX12_amount_40 4 rfl ?_
      refine x_i2l dX12_amount_41 ?_
      refine x_cS (N := mX12_in) (d' := 0) (mc := 0) (ms := 0) (cb := 0) (sb := 0) (As := [.long ((nI (dvN tp (skP tp tn p) ((runF (isDg tp) (tn - (skP tp tn p)) (skP tp tn p)) - (skP tp tn p)))).toInt64), .long ((nI a).toInt64), .long hi.toInt64]) (st := []) dX12_amount_42 mX12_in_s lX12_155 rfl (by decide) (Nat.le_of_ble_eq_true rfl) (Md_in) rfl (st1 := [.int (bI (decide ((nI a).toInt64 ≤ (nI (dvN tp (skP tp tn p) ((runF (isDg tp) (tn - (skP tp tn p)) (skP tp tn p)) - (skP tp tn p)))).toInt64 ∧ (nI (dvN tp (skP tp tn p) ((runF (isDg tp) (tn - (skP tp tn p)) (skP tp tn p)) - (skP tp tn p)))).toInt64 ≤ hi.toInt64)))]) rfl ?_
      refine x_ifB_ne (tgt := 54) dX12_amount_45 (by decide) (fun c45 => ?_) (fun c45 => ?_)
      · refine x_iload dX12_amount_54 0 rfl ?_
        rw [i64_in] at c45
        have e4 := tn_4 (lo := nI a) (hi := hi) hkq (by rw [g1]; exact of_decide_eq_true c45)
        exact x_iret dX12_amount_56 rfl (xEx_i (((dvN tp (skP tp tn p) ((runF (isDg tp) (tn - (skP tp tn p)) (skP tp tn p)) - (skP tp tn p))), (runF (isDg tp) (tn - (skP tp tn p)) (skP tp tn p))), G2) ⟨by rw [e4]; exact hN3, hdv, by show (runF (isDg tp) (tn - (skP tp tn p)) (skP tp tn p)) ≤ _; omega, by rw [e4]; show 0 < 1000000; decide, fun q0 => by rw [e4]; exact ⟨by show (runF (isDg tp) (tn - (skP tp tn p)) (skP tp tn p)) ≤ _; omega, by show skP tp tn (runF (isDg tp) (tn - (skP tp tn p)) (skP tp tn p)) = skP tp tn (atA tp tn (skP tp tn q)); rw [g4], g2⟩⟩ rfl rfl rfl)
      · refine x_aload_n dX12_amount_48 2 rfl ?_
        refine x_iconst dX12_amount_49 ki_1 ?_
        refine x_iload_n dX12_amount_50 1 rfl ?_
        refine x_cVe (N := mX12_fails) (d' := 0) (mc := 0) (ms := 0) (cb := 0) (sb := 0) (As := [.int (nI 1), .int (nI (skP tp tn p))]) (st := []) dX12_amount_51 mX12_fails_v lX12_226 rfl rfl (hN2.1) rfl (by decide) (Nat.le_of_ble_eq_true rfl) (Md_fails (f := 0) hN3 (by decide)) rfl (sf := fun G4 => []) (fun _ => rfl) (fun G4 hN4 => ?_)
        refine x_iload dX12_amount_54 0 rfl ?_
        refine x_pc (pc' := 56) rfl ?_
        rw [i64_in] at c45
        have e3 := tn_3 (lo := nI a) (hi := hi) hkq (by rw [g1]; exact Decidable.not_not.mp (of_decide_eq_false c45))
        exact x_iret dX12_amount_56 rfl (xEx_i (((dvN tp (skP tp tn p) ((runF (isDg tp) (tn - (skP tp tn p)) (skP tp tn p)) - (skP tp tn p))), (runF (isDg tp) (tn - (skP tp tn p)) (skP tp tn p))), G4) ⟨by rw [e3]; show MW _ _ _ _ _ _ _ (pF F tn _ (flP tp tn 0 q 1) sl en de co op) _ _; rw [flP_z, ← hq]; rw [flt_z] at hN4; exact hN4, hdv, by show (runF (isDg tp) (tn - (skP tp tn p)) (skP tp tn p)) ≤ _; omega, by rw [e3]; show flP tp tn 0 q 1 < _; rw [flP_z]; omega, fun q0 => absurd (by rw [e3] at q0; exact q0) flP_ne⟩ rfl rfl rfl)
theorem Md_amount {K : xG} {h y : Nat} {G0 G : xHp} {hl : xHl} {r : xRw} {sc : Nat × Nat × Int32} {A : Nat → Nat → Int32} {F : Nat → Int32} {wa sa : Nat → Int64} {tn p f sl en de co op : Nat} {q a : Nat} {hi : Int32} {tp : Nat → Nat} (hT : TpE (A 27) tp) (hlt : ∀ j, tp j < 256) (htn : tn ≤ 400) (hM : MW G0 G y hl r sc A (pF F tn p f sl en de co op) wa sa) (hp2 : p ≤ tn + 2) (hf9 : f < 1000000) (ha31 : a < 2 ^ 31) (hz : f = 0 → p ≤ tn ∧ skP tp tn p = skP tp tn q) : xCall K mX12_amount 3 0 0 [.ref y, .int (nI a), .int hi] h G (xEx (fun e : (Nat × Nat) × xHp => MW G0 e.2 y hl r sc A (pF F tn e.1.2 (tnP tp tn f q (nI a) hi).1 sl en de co op) wa sa ∧ e.1.1 < 100000 ∧ e.1.2 ≤ tn + 2 ∧ (tnP tp tn f q (nI a) hi).1 < 1000000 ∧ ((tnP tp tn f q (nI a) hi).1 = 0 → e.1.2 ≤ tn ∧ skP tp tn e.1.2 = skP tp tn (tnP tp tn f q (nI a) hi).2 ∧ e.1.1 = nmN tp tn q)) (fun e => some (.int (nI e.1.1))) (fun _ => h) (fun e => e.2)) := by
  by_cases e : f = 0
  · obtain ⟨z1, z2⟩ := hz e
    subst e
    rcases hdg : dgB tp tn (skP tp tn p) with _ | _
    · exact Md_amount2 hT hlt htn hM z1 z2 hdg
    · exact Md_amount3 hT hlt htn hM z1 z2 ha31 hdg
  · exact Md_amount1 hT hlt htn hM hp2 hf9 e
theorem Md_hallWord {K : xG} {h k : Nat} {G : xHp} (hk : k < 5) : xCall K mX12_hallWord 0 0 0 [.int (nI k)] h G (xRet (some (.ref (K.2.2.2.2.1 (hwI k)))) h G) := by
  refine x_entry (by decide) (ls := [(0, .int (nI k))]) rfl (Nat.le_of_ble_eq_true rfl) ?_
  refine x_iload_n dX12_hallWord_0 0 rfl ?_
  rcases xsw_0_4 (nI k) with c1 | c1 | c1 | c1 | c1
  · refine x_tableIn (tgt := 32) (off := 31) dX12_hallWord_1 (by rw [c1]; decide) (by rw [c1]; decide) (by rw [c1]; rfl) (by decide) ?_
    refine x_ldcwS 22 (by decide) rfl rfl dX12_hallWord_32 ?_
    exact x_aret dX12_hallWord_35 rfl (by simp) (by simp) (xRet_e (by have e1 := (nI_eq (by omega) (by decide)).mp c1; subst e1; rfl) rfl)
  · refine x_tableIn (tgt := 36) (off := 35) dX12_hallWord_1 (by rw [c1]; decide) (by rw [c1]; decide) (by rw [c1]; rfl) (by decide) ?_
    refine x_ldcS 9 (by decide) rfl rfl dX12_hallWord_36 ?_
    exact x_aret dX12_hallWord_38 rfl (by simp) (by simp) (xRet_e (by have e1 := (nI_eq (by omega) (by decide)).mp c1; subst e1; rfl) rfl)
  · refine x_tableIn (tgt := 39) (off := 38) dX12_hallWord_1 (by rw [c1]; decide) (by rw [c1]; decide) (by rw [c1]; rfl) (by decide) ?_
    refine x_ldcS 7 (by decide) rfl rfl dX12_hallWord_39 ?_
    exact x_aret dX12_hallWord_41 rfl (by simp) (by simp) (xRet_e (by have e1 := (nI_eq (by omega) (by decide)).mp c1; subst e1; rfl) rfl)
  · refine x_tableIn (tgt := 42) (off := 41) dX12_hallWord_1 (by rw [c1]; decide) (by rw [c1]; decide) (by rw [c1]; rfl) (by decide) ?_
    refine x_ldcS 8 (by decide) rfl rfl dX12_hallWord_42 ?_
    exact x_aret dX12_hallWord_44 rfl (by simp) (by simp) (xRet_e (by have e1 := (nI_eq (by omega) (by decide)).mp c1; subst e1; rfl) rfl)
  · refine x_tableOut (tgt := 45) dX12_hallWord_1 (by omega) (by decide) ?_
    refine x_ldcwS 23 (by decide) rfl rfl dX12_hallWord_45 ?_
    exact x_aret dX12_hallWord_48 rfl (by simp) (by simp) (xRet_e (by have e1 : k = 4 := (by rw [nI_toInt (by omega)] at c1; omega); subst e1; rfl) rfl)
theorem Md_isFull0 {K : xG} {h y : Nat} {G0 G : xHp} {hl : xHl} {r : xRw} {sc : Nat × Nat × Int32} {A : Nat → Nat → Int32} {F : Nat → Int32} {wa sa : Nat → Int64} {tn p f sl en de co op : Nat} {bf : Nat} {hk : xHl} (hM : MW G0 G y hl r sc A (pF F tn p f sl en de co op) wa sa) {d : Nat} (hN : NH A hk d) (hd2 : d ≤ 2) (hC : CntOk hk) (hbf : bf ≤ 40) : xCall K mX12_isFull 0 0 0 [.ref y, .int (nI 0), .int (nI bf)] h G (xRet (some (.int (bI (tooM hk 0 bf)))) h G) := by
  refine x_entry (by decide) (ls := [(0, .ref y), (1, .int (nI 0)), (2, .int (nI bf))]) rfl (Nat.le_of_ble_eq_true rfl) ?_
  obtain ⟨n1, n2, n3, n4⟩ := hN
  obtain ⟨o2, o3, o4⟩ := hC
  refine x_iload_n dX12_isFull_0 2 rfl ?_
  refine x_bipush dX12_isFull_1 kb_40 ?_
  refine x_icmpN_eq (tgt := 27) dX12_isFull_3 (by decide) (by omega) (by omega) (fun c3 => ?_) (fun c3 => ?_)
  · refine x_iconst dX12_isFull_27 ki_1 ?_
    exact x_zret dX12_isFull_28 rfl (by first | rfl | decide | exact bI_nar _) (xRet_e (by rw [show tooM hk 0 bf = true from decide_eq_true (by omega)]; rfl) rfl)
  · refine x_iload_n dX12_isFull_6 1 rfl ?_
    refine x_ifN_ne (tgt := 14) dX12_isFull_7 (by decide) (by omega) (fun c7 => ?_) (fun c7 => ?_)
    · exact absurd c7 (by decide)
    · refine x_iconst dX12_isFull_10 ki_1 ?_
      refine x_goto (tgt := 15) dX12_isFull_11 (by decide) ?_
      refine x_iload_n dX12_isFull_15 2 rfl ?_
      refine x_ifN_ne (tgt := 23) dX12_isFull_16 (by decide) (by omega) (fun c16 => ?_) (fun c16 => ?_)
      · refine x_pc (pc' := 23) rfl ?_
        refine x_iconst dX12_isFull_23 ki_0 ?_
        refine x_icmpN_eq (tgt := 29) dX12_isFull_24 (by decide) (by omega) (by omega) (fun c24 => ?_) (fun c24 => ?_)
        · exact absurd c24 (by decide)
        · refine x_iconst dX12_isFull_27 ki_1 ?_
          exact x_zret dX12_isFull_28 rfl (by first | rfl | decide | exact bI_nar _) (xRet_e (by rw [show tooM hk 0 bf = true from decide_eq_true (by omega)]; rfl) rfl)
      · refine x_pc (pc' := 19) rfl ?_
        refine x_iconst dX12_isFull_19 ki_1 ?_
        refine x_goto (tgt := 24) dX12_isFull_20 (by decide) ?_
        refine x_icmpN_eq (tgt := 29) dX12_isFull_24 (by decide) (by omega) (by omega) (fun c24 => ?_) (fun c24 => ?_)
        · refine x_iload_n dX12_isFull_29 1 rfl ?_
          refine x_tableOut (tgt := 105) dX12_isFull_30 (by decide) (by decide) ?_
          refine x_iconst dX12_isFull_105 ki_0 ?_
          exact x_zret dX12_isFull_106 rfl (by first | rfl | decide | exact bI_nar _) (xRet_e (by rw [show tooM hk 0 bf = false from decide_eq_false (by omega)]; rfl) rfl)
        · exact absurd c24 (by decide)
theorem Md_isFull1 {K : xG} {h y : Nat} {G0 G : xHp} {hl : xHl} {r : xRw} {sc : Nat × Nat × Int32} {A : Nat → Nat → Int32} {F : Nat → Int32} {wa sa : Nat → Int64} {tn p f sl en de co op : Nat} {bf : Nat} {hk : xHl} (hM : MW G0 G y hl r sc A (pF F tn p f sl en de co op) wa sa) {d : Nat} (hN : NH A hk d) (hd2 : d ≤ 2) (hC : CntOk hk) (hbf : bf ≤ 40) : xCall K mX12_isFull 0 0 0 [.ref y, .int (nI 1), .int (nI bf)] h G (xRet (some (.int (bI (tooM hk 1 bf)))) h G) := by
  refine x_entry (by decide) (ls := [(0, .ref y), (1, .int (nI 1)), (2, .int (nI bf))]) rfl (Nat.le_of_ble_eq_true rfl) ?_
  obtain ⟨n1, n2, n3, n4⟩ := hN
  obtain ⟨o2, o3, o4⟩ := hC
  refine x_iload_n dX12_isFull_0 2 rfl ?_
  refine x_bipush dX12_isFull_1 kb_40 ?_
  refine x_icmpN_eq (tgt := 27) dX12_isFull_3 (by decide) (by omega) (by omega) (fun c3 => ?_) (fun c3 => ?_)
  · refine x_iconst dX12_isFull_27 ki_1 ?_
    exact x_zret dX12_isFull_28 rfl (by first | rfl | decide | exact bI_nar _) (xRet_e (by rw [show tooM hk 1 bf = true from decide_eq_true (by omega)]; rfl) rfl)
  · refine x_iload_n dX12_isFull_6 1 rfl ?_
    refine x_ifN_ne (tgt := 14) dX12_isFull_7 (by decide) (by omega) (fun c7 => ?_) (fun c7 => ?_)
    · refine x_iconst dX12_isFull_14 ki_0 ?_
      refine x_iload_n dX12_isFull_15 2 rfl ?_
      refine x_ifN_ne (tgt := 23) dX12_isFull_16 (by decide) (by omega) (fun c16 => ?_) (fun c16 => ?_)
      · refine x_iconst dX12_isFull_23 ki_0 ?_
        refine x_pc (pc' := 24) rfl ?_
        refine x_icmpN_eq (tgt := 29) dX12_isFull_24 (by decide) (by omega) (by omega) (fun c24 => ?_) (fun c24 => ?_)
        · refine x_iload_n dX12_isFull_29 1 rfl ?_
          refine x_tableIn (tgt := 56) (off := 26) dX12_isFull_30 (by decide) (by decide) rfl (by decide) ?_
          refine x_aload_n dX12_isFull_56 0 rfl ?_
          refine x_get (v := .ref (y + 19)) dX12_isFull_57 fX12_64 (hM.1) rfl ?_
          refine x_iconst dX12_isFull_60 ki_2 ?_
          refine x_ialdN (n := 5) (f := A 19) dX12_isFull_61 (hM.c19) (by decide) (by decide) ?_
          refine x_topi (y := nI (hk 0 2)) (n1 2 (by omega) (by decide)) ?_
          refine x_iconst dX12_isFull_62 ki_4 ?_
          refine x_icmpN_ne (tgt := 70) dX12_isFull_63 (by decide) (by omega) (by omega) (fun c63 => ?_) (fun c63 => ?_)
          · refine x_iconst dX12_isFull_70 ki_0 ?_
            refine x_pc (pc' := 71) rfl ?_
            exact x_zret dX12_isFull_71 rfl (by first | rfl | decide | exact bI_nar _) (xRet_e (by rw [show tooM hk 1 bf = false from decide_eq_false (by omega)]; rfl) rfl)
          · refine x_iconst dX12_isFull_66 ki_1 ?_
            refine x_pc (pc' := 67) rfl ?_
            refine x_goto (tgt := 71) dX12_isFull_67 (by decide) ?_
            exact x_zret dX12_isFull_71 rfl (by first | rfl | decide | exact bI_nar _) (xRet_e (by rw [show tooM hk 1 bf = true from decide_eq_true (by omega)]; rfl) rfl)
        · exact absurd c24 (by decide)
      · refine x_iconst dX12_isFull_19 ki_1 ?_
        refine x_pc (pc' := 20) rfl ?_
        refine x_goto (tgt := 24) dX12_isFull_20 (by decide) ?_
        refine x_icmpN_eq (tgt := 29) dX12_isFull_24 (by decide) (by omega) (by omega) (fun c24 => ?_) (fun c24 => ?_)
        · exact absurd c24 (by decide)
        · refine x_iconst dX12_isFull_27 ki_1 ?_
          exact x_zret dX12_isFull_28 rfl (by first | rfl | decide | exact bI_nar _) (xRet_e (by rw [show tooM hk 1 bf = true from decide_eq_true (by omega)]; rfl) rfl)
    · exact absurd c7 (by decide)
theorem Md_isFull2 {K : xG} {h y : Nat} {G0 G : xHp} {hl : xHl} {r : xRw} {sc : Nat × Nat × Int32} {A : Nat → Nat → Int32} {F : Nat → Int32} {wa sa : Nat → Int64} {tn p f sl en de co op : Nat} {bf : Nat} {hk : xHl} (hM : MW G0 G y hl r sc A (pF F tn p f sl en de co op) wa sa) {d : Nat} (hN : NH A hk d) (hd2 : d ≤ 2) (hC : CntOk hk) (hbf : bf ≤ 40) : xCall K mX12_isFull 0 0 0 [.ref y, .int (nI 2), .int (nI bf)] h G (xRet (some (.int (bI (tooM hk 2 bf)))) h G) := by
  refine x_entry (by decide) (ls := [(0, .ref y), (1, .int (nI 2)), (2, .int (nI bf))]) rfl (Nat.le_of_ble_eq_true rfl) ?_
  obtain ⟨n1, n2, n3, n4⟩ := hN
  obtain ⟨o2, o3, o4⟩ := hC
  refine x_iload_n dX12_isFull_0 2 rfl ?_
  refine x_bipush dX12_isFull_1 kb_40 ?_
  refine x_icmpN_eq (tgt := 27) dX12_isFull_3 (by decide) (by omega) (by omega) (fun c3 => ?_) (fun c3 => ?_)
  · refine x_iconst dX12_isFull_27 ki_1 ?_
    exact x_zret dX12_isFull_28 rfl (by first | rfl | decide | exact bI_nar _) (xRet_e (by rw [show tooM hk 2 bf = true from decide_eq_true (by omega)]; rfl) rfl)
  · refine x_iload_n dX12_isFull_6 1 rfl ?_
    refine x_ifN_ne (tgt := 14) dX12_isFull_7 (by decide) (by omega) (fun c7 => ?_) (fun c7 => ?_)
    · refine x_iconst dX12_isFull_14 ki_0 ?_
      refine x_iload_n dX12_isFull_15 2 rfl ?_
      refine x_ifN_ne (tgt := 23) dX12_isFull_16 (by decide) (by omega) (fun c16 => ?_) (fun c16 => ?_)
      · refine x_iconst dX12_isFull_23 ki_0 ?_
        refine x_pc (pc' := 24) rfl ?_
        refine x_icmpN_eq (tgt := 29) dX12_isFull_24 (by decide) (by omega) (by omega) (fun c24 => ?_) (fun c24 => ?_)
        · refine x_iload_n dX12_isFull_29 1 rfl ?_
          refine x_tableIn (tgt := 72) (off := 42) dX12_isFull_30 (by decide) (by decide) rfl (by decide) ?_
          refine x_aload_n dX12_isFull_72 0 rfl ?_
          refine x_get (v := .ref (y + 19)) dX12_isFull_73 fX12_64 (hM.1) rfl ?_
          refine x_iconst dX12_isFull_76 ki_3 ?_
          refine x_ialdN (n := 5) (f := A 19) dX12_isFull_77 (hM.c19) (by decide) (by decide) ?_
          refine x_topi (y := nI (hk 0 3)) (n1 3 (by omega) (by decide)) ?_
          refine x_iconst dX12_isFull_78 ki_4 ?_
          refine x_icmpN_ne (tgt := 86) dX12_isFull_79 (by decide) (by omega) (by omega) (fun c79 => ?_) (fun c79 => ?_)
          · refine x_iconst dX12_isFull_86 ki_0 ?_
            refine x_pc (pc' := 87) rfl ?_
            exact x_zret dX12_isFull_87 rfl (by first | rfl | decide | exact bI_nar _) (xRet_e (by rw [show tooM hk 2 bf = false from decide_eq_false (by omega)]; rfl) rfl)
          · refine x_iconst dX12_isFull_82 ki_1 ?_
            refine x_pc (pc' := 83) rfl ?_
            refine x_goto (tgt := 87) dX12_isFull_83 (by decide) ?_
            exact x_zret dX12_isFull_87 rfl (by first | rfl | decide | exact bI_nar _) (xRet_e (by rw [show tooM hk 2 bf = true from decide_eq_true (by omega)]; rfl) rfl)
        · exact absurd c24 (by decide)
      · refine x_iconst dX12_isFull_19 ki_1 ?_
        refine x_pc (pc' := 20) rfl ?_
        refine x_goto (tgt := 24) dX12_isFull_20 (by decide) ?_
        refine x_icmpN_eq (tgt := 29) dX12_isFull_24 (by decide) (by omega) (by omega) (fun c24 => ?_) (fun c24 => ?_)
        · exact absurd c24 (by decide)
        · refine x_iconst dX12_isFull_27 ki_1 ?_
          exact x_zret dX12_isFull_28 rfl (by first | rfl | decide | exact bI_nar _) (xRet_e (by rw [show tooM hk 2 bf = true from decide_eq_true (by omega)]; rfl) rfl)
    · exact absurd c7 (by decide)
theorem Md_isFull3 {K : xG} {h y : Nat} {G0 G : xHp} {hl : xHl} {r : xRw} {sc : Nat × Nat × Int32} {A : Nat → Nat → Int32} {F : Nat → Int32} {wa sa : Nat → Int64} {tn p f sl en de co op : Nat} {bf : Nat} {hk : xHl} (hM : MW G0 G y hl r sc A (pF F tn p f sl en de co op) wa sa) {d : Nat} (hN : NH A hk d) (hd2 : d ≤ 2) (hC : CntOk hk) (hbf : bf ≤ 40) : xCall K mX12_isFull 0 0 0 [.ref y, .int (nI 3), .int (nI bf)] h G (xRet (some (.int (bI (tooM hk 4 bf)))) h G) := by
  refine x_entry (by decide) (ls := [(0, .ref y), (1, .int (nI 3)), (2, .int (nI bf))]) rfl (Nat.le_of_ble_eq_true rfl) ?_
  obtain ⟨n1, n2, n3, n4⟩ := hN
  obtain ⟨o2, o3, o4⟩ := hC
  refine x_iload_n dX12_isFull_0 2 rfl ?_
  refine x_bipush dX12_isFull_1 kb_40 ?_
  refine x_icmpN_eq (tgt := 27) dX12_isFull_3 (by decide) (by omega) (by omega) (fun c3 => ?_) (fun c3 => ?_)
  · refine x_iconst dX12_isFull_27 ki_1 ?_
    exact x_zret dX12_isFull_28 rfl (by first | rfl | decide | exact bI_nar _) (xRet_e (by rw [show tooM hk 4 bf = true from decide_eq_true (by omega)]; rfl) rfl)
  · refine x_iload_n dX12_isFull_6 1 rfl ?_
    refine x_ifN_ne (tgt := 14) dX12_isFull_7 (by decide) (by omega) (fun c7 => ?_) (fun c7 => ?_)
    · refine x_iconst dX12_isFull_14 ki_0 ?_
      refine x_iload_n dX12_isFull_15 2 rfl ?_
      refine x_ifN_ne (tgt := 23) dX12_isFull_16 (by decide) (by omega) (fun c16 => ?_) (fun c16 => ?_)
      · refine x_iconst dX12_isFull_23 ki_0 ?_
        refine x_pc (pc' := 24) rfl ?_
        refine x_icmpN_eq (tgt := 29) dX12_isFull_24 (by decide) (by omega) (by omega) (fun c24 => ?_) (fun c24 => ?_)
        · refine x_iload_n dX12_isFull_29 1 rfl ?_
          refine x_tableIn (tgt := 88) (off := 58) dX12_isFull_30 (by decide) (by decide) rfl (by decide) ?_
          refine x_aload_n dX12_isFull_88 0 rfl ?_
          refine x_get (v := .ref (y + 19)) dX12_isFull_89 fX12_64 (hM.1) rfl ?_
          refine x_iconst dX12_isFull_92 ki_4 ?_
          refine x_ialdN (n := 5) (f := A 19) dX12_isFull_93 (hM.c19) (by decide) (by decide) ?_
          refine x_topi (y := nI (hk 0 4)) (n1 4 (by omega) (by decide)) ?_
          refine x_bipush dX12_isFull_94 kb_7 ?_
          refine x_icmpN_ne (tgt := 103) dX12_isFull_96 (by decide) (by omega) (by omega) (fun c96 => ?_) (fun c96 => ?_)
          · refine x_iconst dX12_isFull_103 ki_0 ?_
            refine x_pc (pc' := 104) rfl ?_
            exact x_zret dX12_isFull_104 rfl (by first | rfl | decide | exact bI_nar _) (xRet_e (by rw [show tooM hk 4 bf = false from decide_eq_false (by omega)]; rfl) rfl)
          · refine x_iconst dX12_isFull_99 ki_1 ?_
            refine x_pc (pc' := 100) rfl ?_
            refine x_goto (tgt := 104) dX12_isFull_100 (by decide) ?_
            exact x_zret dX12_isFull_104 rfl (by first | rfl | decide | exact bI_nar _) (xRet_e (by rw [show tooM hk 4 bf = true from decide_eq_true (by omega)]; rfl) rfl)
        · exact absurd c24 (by decide)
      · refine x_iconst dX12_isFull_19 ki_1 ?_
        refine x_pc (pc' := 20) rfl ?_
        refine x_goto (tgt := 24) dX12_isFull_20 (by decide) ?_
        refine x_icmpN_eq (tgt := 29) dX12_isFull_24 (by decide) (by omega) (by omega) (fun c24 => ?_) (fun c24 => ?_)
        · exact absurd c24 (by decide)
        · refine x_iconst dX12_isFull_27 ki_1 ?_
          exact x_zret dX12_isFull_28 rfl (by first | rfl | decide | exact bI_nar _) (xRet_e (by rw [show tooM hk 4 bf = true from decide_eq_true (by omega)]; rfl) rfl)
    · exact absurd c7 (by decide)
theorem Md_isFull4 {K : xG} {h y : Nat} {G0 G : xHp} {hl : xHl} {r : xRw} {sc : Nat × Nat × Int32} {A : Nat → Nat → Int32} {F : Nat → Int32} {wa sa : Nat → Int64} {tn p f sl en de co op : Nat} {bf : Nat} {hk : xHl} (hM : MW G0 G y hl r sc A (pF F tn p f sl en de co op) wa sa) {d : Nat} (hN : NH A hk d) (hd2 : d ≤ 2) (hC : CntOk hk) (hbf : bf ≤ 40) : xCall K mX12_isFull 0 0 0 [.ref y, .int (nI 4), .int (nI bf)] h G (xRet (some (.int (bI (tooM hk 3 bf)))) h G) := by
  refine x_entry (by decide) (ls := [(0, .ref y), (1, .int (nI 4)), (2, .int (nI bf))]) rfl (Nat.le_of_ble_eq_true rfl) ?_
  obtain ⟨n1, n2, n3, n4⟩ := hN
  obtain ⟨o2, o3, o4⟩ := hC
  refine x_iload_n dX12_isFull_0 2 rfl ?_
  refine x_bipush dX12_isFull_1 kb_40 ?_
  refine x_icmpN_eq (tgt := 27) dX12_isFull_3 (by decide) (by omega) (by omega) (fun c3 => ?_) (fun c3 => ?_)
  · refine x_iconst dX12_isFull_27 ki_1 ?_
    exact x_zret dX12_isFull_28 rfl (by first | rfl | decide | exact bI_nar _) (xRet_e (by rw [show tooM hk 3 bf = true from decide_eq_true (by omega)]; rfl) rfl)
  · refine x_iload_n dX12_isFull_6 1 rfl ?_
    refine x_ifN_ne (tgt := 14) dX12_isFull_7 (by decide) (by omega) (fun c7 => ?_) (fun c7 => ?_)
    · refine x_iconst dX12_isFull_14 ki_0 ?_
      refine x_iload_n dX12_isFull_15 2 rfl ?_
      refine x_ifN_ne (tgt := 23) dX12_isFull_16 (by decide) (by omega) (fun c16 => ?_) (fun c16 => ?_)
      · refine x_iconst dX12_isFull_23 ki_0 ?_
        refine x_pc (pc' := 24) rfl ?_
        refine x_icmpN_eq (tgt := 29) dX12_isFull_24 (by decide) (by omega) (by omega) (fun c24 => ?_) (fun c24 => ?_)
        · refine x_iload_n dX12_isFull_29 1 rfl ?_
          refine x_tableOut (tgt := 105) dX12_isFull_30 (by decide) (by decide) ?_
          refine x_iconst dX12_isFull_105 ki_0 ?_
          exact x_zret dX12_isFull_106 rfl (by first | rfl | decide | exact bI_nar _) (xRet_e (by rw [show tooM hk 3 bf = false from decide_eq_false (by omega)]; rfl) rfl)
        · exact absurd c24 (by decide)
      · refine x_iconst dX12_isFull_19 ki_1 ?_
        refine x_pc (pc' := 20) rfl ?_
        refine x_goto (tgt := 24) dX12_isFull_20 (by decide) ?_
        refine x_icmpN_eq (tgt := 29) dX12_isFull_24 (by decide) (by omega) (by omega) (fun c24 => ?_) (fun c24 => ?_)
        · exact absurd c24 (by decide)
        · refine x_iconst dX12_isFull_27 ki_1 ?_
          exact x_zret dX12_isFull_28 rfl (by first | rfl | decide | exact bI_nar _) (xRet_e (by rw [show tooM hk 3 bf = true from decide_eq_true (by omega)]; rfl) rfl)
    · exact absurd c7 (by decide)
