theorem Md_goesOnH {K : xG} {h y : Nat} {G0 G : xHp} {hl : xHl} {r : xRw} {sc : Nat × Nat × Int32} {A : Nat → Nat → Int32} {F : Nat → Int32} {wa sa : Nat → Int64} {tn p f sl en de co op : Nat} {q : Nat} {tp : Nat → Nat} (hT : TpE (A 27) tp) (hlt : ∀ j, tp j < 256) (htn : tn ≤ 400) (hM : MW G0 G y hl r sc A (pF F tn p f sl en de co op) wa sa) (hp2 : p ≤ tn + 2) (hf9 : f < 1000000) (hz : f = 0 → p ≤ tn ∧ skP tp tn p = skP tp tn q) : xCall K mX12_goesOn 2 0 0 [.ref y] h G (xEx (fun e : Nat × xHp => MW G0 e.2 y hl r sc A (pF F tn e.1 (if isS tp tn f q 59 = true then f else eeP tp tn f q) sl en de co op) wa sa ∧ (isS tp tn f q 59 = true → e.1 ≤ tn ∧ e.1 = atA tp tn (skP tp tn q)) ∧ (if isS tp tn f q 59 = true then f else eeP tp tn f q) < 1000000) (fun _ => some (.int (bI (isS tp tn f q 59)))) (fun _ => h) (fun e => e.2)) := by
  refine x_entry (by decide) (ls := [(0, .ref y)]) rfl (Nat.le_of_ble_eq_true rfl) ?_
  have hsk := sk_p2 (tp := tp) hp2
  refine x_aload_n dX12_goesOn_0 0 rfl ?_
  refine x_cVe (N := mX12_blanks) (d' := 1) (mc := 0) (ms := 0) (cb := 0) (sb := 0) (As := []) (st := []) dX12_goesOn_1 mX12_blanks_v lX12_210 rfl rfl (hM.1) rfl (by decide) (Nat.le_of_ble_eq_true rfl) (Md_blanksA hT hlt htn hM (by omega)) rfl (sf := fun G1 => []) (fun _ => rfl) (fun G1 hN1 => ?_)
  refine x_aload_n dX12_goesOn_4 0 rfl ?_
  refine x_get (v := .int (nI f)) dX12_goesOn_5 fX12_187 (hN1.1) rfl ?_
  refine x_ifN_ne (tgt := 40) dX12_goesOn_8 (by decide) (by omega) (fun c8 => ?_) (fun c8 => ?_)
  · refine x_aload_n dX12_goesOn_40 0 rfl ?_
    refine x_get (v := .int (nI f)) dX12_goesOn_41 fX12_187 (hN1.1) rfl ?_
    refine x_ifN_ne (tgt := 62) dX12_goesOn_44 (by decide) (by omega) (fun c44 => ?_) (fun c44 => ?_)
    · refine x_iconst dX12_goesOn_62 ki_0 ?_
      refine x_pc (pc' := 63) rfl ?_
      refine x_istore_n (ls' := [(1, .int (nI 0)), (0, .ref y)]) dX12_goesOn_63 (by decide) rfl ?_
      refine x_aload_n dX12_goesOn_64 1 rfl ?_
      refine x_dup dX12_goesOn_65 rfl ?_
      refine x_get (v := .int (nI (skP tp tn p))) dX12_goesOn_66 fX12_190 (hN1.1) rfl ?_
      refine x_iconst dX12_goesOn_69 ki_1 ?_
      refine x_iaddN dX12_goesOn_70 ?_
      refine x_put (fs' := [.int (F 0), .ref (y + 1), .ref (y + 2), .ref (y + 3), .ref (y + 4), .ref (y + 5), .ref (y + 6), .ref (y + 7), .ref (y + 8), .ref (y + 9), .ref (y + 10), .ref (y + 11), .ref (y + 12), .ref (y + 13), .ref (y + 14), .ref (y + 15), .ref (y + 16), .ref (y + 17), .ref (y + 18), .ref (y + 19), .ref (y + 20), .ref (y + 21), .ref (y + 22), .ref (y + 23), .ref (y + 24), .ref (y + 25), .ref (y + 26), .int (nI tn), .int (nI ((skP tp tn p) + 1)), .int (nI f), .int (nI sl), .int (F 31), .int (nI en), .int (nI de), .int (nI co), .int (nI op), .int (F 36), .ref (y + 27), .ref (y + 28), .ref (y + 29), .ref (y + 30), .ref (y + 31), .ref (y + 32), .ref (y + 33), .ref (y + 34), .ref (y + 35), .ref (y + 36), .ref (y + 37), .ref (y + 38), .int (F 49), .int (F 50), .int (F 51), .int (F 52), .int (F 53), .ref (y + 39), .ref (y + 40), .ref (y + 41), .int (F 57), .int (F 58), .ref (y + 42), .ref (y + 43), .ref (y + 44), .ref (y + 45), .int (F 63), .int (F 64)]) dX12_goesOn_71 fX12_190 (hN1.1) (Nat.le_of_ble_eq_true rfl) rfl rfl rfl ?_
      refine x_geq (G' := xup _ y (modO y (pF F tn ((skP tp tn p) + 1) f sl en de co op))) rfl ?_
      have hM101 := hN1.fld (pF F tn ((skP tp tn p) + 1) f sl en de co op)
      refine x_iload_n dX12_goesOn_74 0 rfl ?_
      have hS : isS tp tn f q 59 = false := isS_n c8
      have hee : eeP tp tn f q = f := ee_bad c8
      exact x_zret dX12_goesOn_75 rfl (by first | rfl | decide | exact bI_nar _) (xEx_i ((skP tp tn p) + 1, _) ⟨by rw [if_neg (by rw [hS]; decide), hee]; exact hM101, fun q0 => absurd (hS.symm.trans q0) (by decide), by rw [if_neg (by rw [hS]; decide), hee]; exact hf9⟩ (by rw [hS]; rfl) rfl rfl)
    · exact absurd c44 c8
  · have h0 : f = 0 := c8
    obtain ⟨z1, z2⟩ := hz h0
    have hk1 := hsk.2 z1
    refine x_aload_n dX12_goesOn_11 0 rfl ?_
    refine x_get (v := .int (nI (skP tp tn p))) dX12_goesOn_12 fX12_190 (hN1.1) rfl ?_
    refine x_aload_n dX12_goesOn_15 0 rfl ?_
    refine x_get (v := .int (nI tn)) dX12_goesOn_16 fX12_159 (hN1.1) rfl ?_
    refine x_pc (pc' := 19) rfl ?_
    refine x_icmpN_ge (tgt := 40) dX12_goesOn_19 (by decide) (by omega) (by omega) (fun c19 => ?_) (fun c19 => ?_)
    · refine x_aload_n dX12_goesOn_40 0 rfl ?_
      refine x_get (v := .int (nI f)) dX12_goesOn_41 fX12_187 (hN1.1) rfl ?_
      refine x_ifN_ne (tgt := 62) dX12_goesOn_44 (by decide) (by omega) (fun c44 => ?_) (fun c44 => ?_)
      · exact absurd h0 c44
      · refine x_aload_n dX12_goesOn_47 0 rfl ?_
        refine x_get (v := .int (nI (skP tp tn p))) dX12_goesOn_48 fX12_190 (hN1.1) rfl ?_
        refine x_aload_n dX12_goesOn_51 0 rfl ?_
        refine x_get (v := .int (nI tn)) dX12_goesOn_52 fX12_159 (hN1.1) rfl ?_
        refine x_icmpN_ge (tgt := 62) dX12_goesOn_55 (by decide) (by omega) (by omega) (fun c55 => ?_) (fun c55 => ?_)
        · refine x_iconst dX12_goesOn_62 ki_0 ?_
          refine x_pc (pc' := 63) rfl ?_
          refine x_istore_n (ls' := [(1, .int (nI 0)), (0, .ref y)]) dX12_goesOn_63 (by decide) rfl ?_
          refine x_aload_n dX12_goesOn_64 1 rfl ?_
          refine x_dup dX12_goesOn_65 rfl ?_
          refine x_get (v := .int (nI (skP tp tn p))) dX12_goesOn_66 fX12_190 (hN1.1) rfl ?_
          refine x_iconst dX12_goesOn_69 ki_1 ?_
          refine x_iaddN dX12_goesOn_70 ?_
          refine x_put (fs' := [.int (F 0), .ref (y + 1), .ref (y + 2), .ref (y + 3), .ref (y + 4), .ref (y + 5), .ref (y + 6), .ref (y + 7), .ref (y + 8), .ref (y + 9), .ref (y + 10), .ref (y + 11), .ref (y + 12), .ref (y + 13), .ref (y + 14), .ref (y + 15), .ref (y + 16), .ref (y + 17), .ref (y + 18), .ref (y + 19), .ref (y + 20), .ref (y + 21), .ref (y + 22), .ref (y + 23), .ref (y + 24), .ref (y + 25), .ref (y + 26), .int (nI tn), .int (nI ((skP tp tn p) + 1)), .int (nI f), .int (nI sl), .int (F 31), .int (nI en), .int (nI de), .int (nI co), .int (nI op), .int (F 36), .ref (y + 27), .ref (y + 28), .ref (y + 29), .ref (y + 30), .ref (y + 31), .ref (y + 32), .ref (y + 33), .ref (y + 34), .ref (y + 35), .ref (y + 36), .ref (y + 37), .ref (y + 38), .int (F 49), .int (F 50), .int (F 51), .int (F 52), .int (F 53), .ref (y + 39), .ref (y + 40), .ref (y + 41), .int (F 57), .int (F 58), .ref (y + 42), .ref (y + 43), .ref (y + 44), .ref (y + 45), .int (F 63), .int (F 64)]) dX12_goesOn_71 fX12_190 (hN1.1) (Nat.le_of_ble_eq_true rfl) rfl rfl rfl ?_
          refine x_geq (G' := xup _ y (modO y (pF F tn ((skP tp tn p) + 1) f sl en de co op))) rfl ?_
          have hM102 := hN1.fld (pF F tn ((skP tp tn p) + 1) f sl en de co op)
          refine x_iload_n dX12_goesOn_74 0 rfl ?_
          have hkd : kdA tp tn (skP tp tn q) = 0 := kd_end (by omega)
          have hS : isS tp tn f q 59 = false := isS_f (fun q0 => by omega)
          have hee : eeP tp tn f q = f := by unfold eeP; rw [if_pos ⟨h0, hkd⟩]; exact h0.symm
          exact x_zret dX12_goesOn_75 rfl (by first | rfl | decide | exact bI_nar _) (xEx_i ((skP tp tn p) + 1, _) ⟨by rw [if_neg (by rw [hS]; decide), hee]; exact hM102, fun q0 => absurd (hS.symm.trans q0) (by decide), by rw [if_neg (by rw [hS]; decide), hee]; exact hf9⟩ (by rw [hS]; rfl) rfl rfl)
        · exact absurd c19 (by omega)
    · refine x_aload_n dX12_goesOn_22 0 rfl ?_
      refine x_cV (N := mX12_sign) (d' := 0) (mc := 0) (ms := 0) (cb := 0) (sb := 0) (As := []) (st := []) dX12_goesOn_23 mX12_sign_v lX12_193 rfl rfl (hN1.1) rfl (by decide) (Nat.le_of_ble_eq_true rfl) (Md_sign hT hlt htn hN1 (by omega)) rfl (st1 := [.int (sgV tp tn (skP tp tn p))]) rfl ?_
      refine x_bipush dX12_goesOn_26 kb_59 ?_
      refine x_icmp_eq (x := sgV tp tn (skP tp tn p)) (y := nI 59) (tgt := 40) dX12_goesOn_28 (by decide) (fun c28 => ?_) (fun c28 => ?_)
      · refine x_aload_n dX12_goesOn_40 0 rfl ?_
        refine x_get (v := .int (nI f)) dX12_goesOn_41 fX12_187 (hN1.1) rfl ?_
        refine x_ifN_ne (tgt := 62) dX12_goesOn_44 (by decide) (by omega) (fun c44 => ?_) (fun c44 => ?_)
        · exact absurd h0 c44
        · refine x_aload_n dX12_goesOn_47 0 rfl ?_
          refine x_get (v := .int (nI (skP tp tn p))) dX12_goesOn_48 fX12_190 (hN1.1) rfl ?_
          refine x_pc (pc' := 51) rfl ?_
          refine x_aload_n dX12_goesOn_51 0 rfl ?_
          refine x_get (v := .int (nI tn)) dX12_goesOn_52 fX12_159 (hN1.1) rfl ?_
          refine x_icmpN_ge (tgt := 62) dX12_goesOn_55 (by decide) (by omega) (by omega) (fun c55 => ?_) (fun c55 => ?_)
          · exact absurd c19 (by omega)
          · refine x_iconst dX12_goesOn_58 ki_1 ?_
            refine x_goto (tgt := 63) dX12_goesOn_59 (by decide) ?_
            refine x_istore_n (ls' := [(1, .int (nI 1)), (0, .ref y)]) dX12_goesOn_63 (by decide) rfl ?_
            refine x_aload_n dX12_goesOn_64 1 rfl ?_
            refine x_dup dX12_goesOn_65 rfl ?_
            refine x_get (v := .int (nI (skP tp tn p))) dX12_goesOn_66 fX12_190 (hN1.1) rfl ?_
            refine x_iconst dX12_goesOn_69 ki_1 ?_
            refine x_pc (pc' := 70) rfl ?_
            refine x_iaddN dX12_goesOn_70 ?_
            refine x_put (fs' := [.int (F 0), .ref (y + 1), .ref (y + 2), .ref (y + 3), .ref (y + 4), .ref (y + 5), .ref (y + 6), .ref (y + 7), .ref (y + 8), .ref (y + 9), .ref (y + 10), .ref (y + 11), .ref (y + 12), .ref (y + 13), .ref (y + 14), .ref (y + 15), .ref (y + 16), .ref (y + 17), .ref (y + 18), .ref (y + 19), .ref (y + 20), .ref (y + 21), .ref (y + 22), .ref (y + 23), .ref (y + 24), .ref (y + 25), .ref (y + 26), .int (nI tn), .int (nI ((skP tp tn p) + 1)), .int (nI f), .int (nI sl), .int (F 31), .int (nI en), .int (nI de), .int (nI co), .int (nI op), .int (F 36), .ref (y + 27), .ref (y + 28), .ref (y + 29), .ref (y + 30), .ref (y + 31), .ref (y + 32), .ref (y + 33), .ref (y + 34), .ref (y + 35), .ref (y + 36), .ref (y + 37), .ref (y + 38), .int (F 49), .int (F 50), .int (F 51), .int (F 52), .int (F 53), .ref (y + 39), .ref (y + 40), .ref (y + 41), .int (F 57), .int (F 58), .ref (y + 42), .ref (y + 43), .ref (y + 44), .ref (y + 45), .int (F 63), .int (F 64)]) dX12_goesOn_71 fX12_190 (hN1.1) (Nat.le_of_ble_eq_true rfl) rfl rfl rfl ?_
            refine x_geq (G' := xup _ y (modO y (pF F tn ((skP tp tn p) + 1) f sl en de co op))) rfl ?_
            have hM103 := hN1.fld (pF F tn ((skP tp tn p) + 1) f sl en de co op)
            refine x_iload_n dX12_goesOn_74 0 rfl ?_
            have hs59 := isS_sg (tp := tp) (n := tn) (c := 59) (s := (f, q, 0, [])) h0 z2 hlt (by decide)
            change isS tp tn f q 59 = true ↔ _ at hs59
            have hS := hs59.mpr c28
            have hx := sg_at (tp := tp) (n := tn) hlt (c := 59) (by decide) c28
            exact x_zret dX12_goesOn_75 rfl (by first | rfl | decide | exact bI_nar _) (xEx_i ((skP tp tn p) + 1, _) ⟨by rw [if_pos hS]; exact hM103, fun q0 => ⟨by show (skP tp tn p) + 1 ≤ tn; omega, by rw [← z2]; exact hx.2.symm⟩, by rw [if_pos hS]; exact hf9⟩ (by rw [hS]; rfl) rfl rfl)
      · refine x_aload_n dX12_goesOn_31 0 rfl ?_
        refine x_iconst dX12_goesOn_32 ki_0 ?_
        refine x_aload_n dX12_goesOn_33 0 rfl ?_
        refine x_get (v := .int (nI (skP tp tn p))) dX12_goesOn_34 fX12_190 (hN1.1) rfl ?_
        refine x_cVe (N := mX12_fails) (d' := 0) (mc := 0) (ms := 0) (cb := 0) (sb := 0) (As := [.int (nI 0), .int (nI (skP tp tn p))]) (st := []) dX12_goesOn_37 mX12_fails_v lX12_226 rfl rfl (hN1.1) rfl (by decide) (Nat.le_of_ble_eq_true rfl) (Md_fails hN1 hf9) rfl (sf := fun G2 => []) (fun _ => rfl) (fun G2 hN2 => ?_)
        refine x_pc (pc' := 40) rfl ?_
        refine x_aload_n dX12_goesOn_40 0 rfl ?_
        refine x_get (v := .int (nI (flt f 0 (skP tp tn p)))) dX12_goesOn_41 fX12_187 (hN2.1) rfl ?_
        refine x_ifN_ne (tgt := 62) dX12_goesOn_44 (by decide) (by have := flt_lt (c := 0) (b := (skP tp tn p)) hf9 (by decide) (by omega); omega) (fun c44 => ?_) (fun c44 => ?_)
        · refine x_iconst dX12_goesOn_62 ki_0 ?_
          refine x_istore_n (ls' := [(1, .int (nI 0)), (0, .ref y)]) dX12_goesOn_63 (by decide) rfl ?_
          refine x_aload_n dX12_goesOn_64 1 rfl ?_
          refine x_dup dX12_goesOn_65 rfl ?_
          refine x_get (v := .int (nI (skP tp tn p))) dX12_goesOn_66 fX12_190 (hN2.1) rfl ?_
          refine x_iconst dX12_goesOn_69 ki_1 ?_
          refine x_iaddN dX12_goesOn_70 ?_
          refine x_pc (pc' := 71) rfl ?_
          refine x_put (fs' := [.int (F 0), .ref (y + 1), .ref (y + 2), .ref (y + 3), .ref (y + 4), .ref (y + 5), .ref (y + 6), .ref (y + 7), .ref (y + 8), .ref (y + 9), .ref (y + 10), .ref (y + 11), .ref (y + 12), .ref (y + 13), .ref (y + 14), .ref (y + 15), .ref (y + 16), .ref (y + 17), .ref (y + 18), .ref (y + 19), .ref (y + 20), .ref (y + 21), .ref (y + 22), .ref (y + 23), .ref (y + 24), .ref (y + 25), .ref (y + 26), .int (nI tn), .int (nI ((skP tp tn p) + 1)), .int (nI (flt f 0 (skP tp tn p))), .int (nI sl), .int (F 31), .int (nI en), .int (nI de), .int (nI co), .int (nI op), .int (F 36), .ref (y + 27), .ref (y + 28), .ref (y + 29), .ref (y + 30), .ref (y + 31), .ref (y + 32), .ref (y + 33), .ref (y + 34), .ref (y + 35), .ref (y + 36), .ref (y + 37), .ref (y + 38), .int (F 49), .int (F 50), .int (F 51), .int (F 52), .int (F 53), .ref (y + 39), .ref (y + 40), .ref (y + 41), .int (F 57), .int (F 58), .ref (y + 42), .ref (y + 43), .ref (y + 44), .ref (y + 45), .int (F 63), .int (F 64)]) dX12_goesOn_71 fX12_190 (hN2.1) (Nat.le_of_ble_eq_true rfl) rfl rfl rfl ?_
          refine x_geq (G' := xup _ y (modO y (pF F tn ((skP tp tn p) + 1) (flt f 0 (skP tp tn p)) sl en de co op))) rfl ?_
          have hM104 := hN2.fld (pF F tn ((skP tp tn p) + 1) (flt f 0 (skP tp tn p)) sl en de co op)
          refine x_iload_n dX12_goesOn_74 0 rfl ?_
          have hs59 := isS_sg (tp := tp) (n := tn) (c := 59) (s := (f, q, 0, [])) h0 z2 hlt (by decide)
          change isS tp tn f q 59 = true ↔ _ at hs59
          have hS : isS tp tn f q 59 = false := by rcases hq0 : isS tp tn f q 59 with _ | _; rfl; exact absurd (hs59.mp hq0) c28
          have hkd : ¬ kdA tp tn (skP tp tn q) = 0 := fun q0 => by rw [← z2] at q0; exact kd_pos c19 q0
          have hee : eeP tp tn f q = flt f 0 (skP tp tn p) := by unfold eeP; rw [if_neg (fun q0 => hkd q0.2)]; unfold flP flt; rw [if_pos h0, if_pos h0, z2]
          have hfl := flt_lt (c := 0) (b := (skP tp tn p)) hf9 (by decide) (by omega)
          exact x_zret dX12_goesOn_75 rfl (by first | rfl | decide | exact bI_nar _) (xEx_i ((skP tp tn p) + 1, _) ⟨by rw [if_neg (by rw [hS]; decide), hee]; exact hM104, fun q0 => absurd (hS.symm.trans q0) (by decide), by rw [if_neg (by rw [hS]; decide), hee]; exact hfl⟩ (by rw [hS]; rfl) rfl rfl)
        · exact absurd c44 (by unfold flt; rw [if_pos h0]; omega)
theorem Md_reads_loop {K : xG} {h y : Nat} {G0 : xHp} {hl : xHl} {r : xRw} {sc : Nat × Nat × Int32} {A0 : Nat → Nat → Int32} {F : Nat → Int32} {wa sa : Nat → Int64} {tn : Nat} {tp : Nat → Nat} {sl en de co op : Nat} {RR : Nat × Nat × xHl} (hT0 : TpE (A0 27) tp) (hlt : ∀ j, tp j < 256) (htn : tn ≤ 400) : ∀ (k bf q : Nat) (hk : xHl) (G1 : xHp), bf + k = 40 → CntOk hk → eeH tp tn (hrL tp tn k (bf + 1) (clP tp tn 0 q hk bf)) = RR → HQ G0 G1 y hl r sc A0 F wa sa tn tp sl en de co op (if bf = 0 then 2 else 0) (0, q, hk) → xV K mX12_readsAll 7 0 0 h G1 49 [(2, .int (nI 1)), (1, .int (nI bf)), (0, .ref y)] [] (xEx (fun G' => HE G0 G' y hl r sc A0 F wa sa 0 sl en de co op 0 RR) (fun _ => none) (fun _ => h) (fun G' => G')) := by
  intro k
  induction k with
  | zero =>
    intro bf q hk G1 hbk hC hr hq1
    obtain ⟨-, A1, p1, hM1, -⟩ := id hq1
    refine x_iload_n dX12_readsAll_49 0 rfl ?_
    refine x_ifN_eq (tgt := 69) dX12_readsAll_50 (by decide) (by omega) (fun c50 => ?_) (fun c50 => ?_)
    · exact absurd c50 (by decide)
    · refine x_aload_n dX12_readsAll_53 2 rfl ?_
      refine x_iload_n dX12_readsAll_54 1 rfl ?_
      refine x_cVe (N := mX12_hallClause) (d' := 6) (mc := 0) (ms := 0) (cb := 0) (sb := 0) (As := [.int (nI bf)]) (st := []) dX12_readsAll_55 mX12_hallClause_v lX12_311 rfl rfl (hM1.1) rfl (by decide) (Nat.le_of_ble_eq_true rfl) (Md_hallClause hT0 hlt htn hq1 hC (by omega)) rfl (sf := fun G2 => []) (fun _ => rfl) (fun G2 hq2 => ?_)
      obtain ⟨hf2, A2, p2, hM2, hK2, hB2, hp20, hz2⟩ := hq2
      have hT2 : TpE (A2 27) tp := by rw [hK2 27 (by decide)]; exact hT0
      refine x_iinc (v := nI (bf + 1)) (ls' := [(1, .int (nI (bf + 1))), (2, .int (nI 1)), (0, .ref y)]) dX12_readsAll_58 1 rfl (nIs _) (by decide) rfl ?_
      refine x_aload_n dX12_readsAll_61 2 rfl ?_
      refine x_cVe (N := mX12_goesOn) (d' := 2) (mc := 0) (ms := 0) (cb := 0) (sb := 0) (As := []) (st := []) dX12_readsAll_62 mX12_goesOn_v lX12_314 rfl rfl (hM2.1) rfl (by decide) (Nat.le_of_ble_eq_true rfl) (Md_goesOnH (q := (clP tp tn 0 q hk bf).2.1) hT2 hlt htn hM2 hp20 hf2 (fun q0 => ⟨(hz2 q0).1, (hz2 q0).2.1⟩)) rfl (sf := fun e3 => [.int (bI (isS tp tn (clP tp tn 0 q hk bf).1 (clP tp tn 0 q hk bf).2.1 59))]) (fun _ => rfl) (fun e3 hq3 => ?_)
      obtain ⟨p3, G3⟩ := e3
      obtain ⟨hM3, hs3, hf3⟩ := hq3
      change MW G0 G3 y hl r sc A2 (pF F tn p3 (if isS tp tn (clP tp tn 0 q hk bf).1 (clP tp tn 0 q hk bf).2.1 59 = true then (clP tp tn 0 q hk bf).1 else eeP tp tn (clP tp tn 0 q hk bf).1 (clP tp tn 0 q hk bf).2.1) sl en de co op) wa sa at hM3
      change isS tp tn (clP tp tn 0 q hk bf).1 (clP tp tn 0 q hk bf).2.1 59 = true → p3 ≤ tn ∧ p3 = atA tp tn (skP tp tn (clP tp tn 0 q hk bf).2.1) at hs3
      refine x_istore_n (ls' := [(2, .int (bI (isS tp tn (clP tp tn 0 q hk bf).1 (clP tp tn 0 q hk bf).2.1 59))), (1, .int (nI (bf + 1))), (0, .ref y)]) dX12_readsAll_65 (by decide) rfl ?_
      refine x_pc (pc' := 66) rfl ?_
      refine x_goto (tgt := 49) dX12_readsAll_66 (by decide) ?_
      rcases hS : isS tp tn (clP tp tn 0 q hk bf).1 (clP tp tn 0 q hk bf).2.1 59 with _ | _
      · rw [if_neg (by rw [hS]; decide)] at hM3 hf3
        have hr2 : eeH tp tn (clP tp tn 0 q hk bf) = RR := by rw [hrL_f hS] at hr; exact hr
        refine x_leq (ls' := [(2, .int (nI 0)), (1, .int (nI (bf + 1))), (0, .ref y)]) rfl ?_
        refine x_iload_n dX12_readsAll_49 0 rfl ?_
        refine x_ifN_eq (tgt := 69) dX12_readsAll_50 (by decide) (by omega) (fun c50 => ?_) (fun c50 => ?_)
        · refine x_aload_n dX12_readsAll_69 2 rfl ?_
          refine x_iconst dX12_readsAll_70 ki_0 ?_
          refine x_put (fs' := [.int (F 0), .ref (y + 1), .ref (y + 2), .ref (y + 3), .ref (y + 4), .ref (y + 5), .ref (y + 6), .ref (y + 7), .ref (y + 8), .ref (y + 9), .ref (y + 10), .ref (y + 11), .ref (y + 12), .ref (y + 13), .ref (y + 14), .ref (y + 15), .ref (y + 16), .ref (y + 17), .ref (y + 18), .ref (y + 19), .ref (y + 20), .ref (y + 21), .ref (y + 22), .ref (y + 23), .ref (y + 24), .ref (y + 25), .ref (y + 26), .int (nI 0), .int (nI p3), .int (nI (eeP tp tn (clP tp tn 0 q hk bf).1 (clP tp tn 0 q hk bf).2.1)), .int (nI sl), .int (F 31), .int (nI en), .int (nI de), .int (nI co), .int (nI op), .int (F 36), .ref (y + 27), .ref (y + 28), .ref (y + 29), .ref (y + 30), .ref (y + 31), .ref (y + 32), .ref (y + 33), .ref (y + 34), .ref (y + 35), .ref (y + 36), .ref (y + 37), .ref (y + 38), .int (F 49), .int (F 50), .int (F 51), .int (F 52), .int (F 53), .ref (y + 39), .ref (y + 40), .ref (y + 41), .int (F 57), .int (F 58), .ref (y + 42), .ref (y + 43), .ref (y + 44), .ref (y + 45), .int (F 63), .int (F 64)]) dX12_readsAll_71 fX12_159 (hM3.1) (Nat.le_of_ble_eq_true rfl) rfl rfl rfl ?_
          refine x_geq (G' := xup _ y (modO y (pF F 0 p3 (eeP tp tn (clP tp tn 0 q hk bf).1 (clP tp tn 0 q hk bf).2.1) sl en de co op))) rfl ?_
          have hM101 := hM3.fld (pF F 0 p3 (eeP tp tn (clP tp tn 0 q hk bf).1 (clP tp tn 0 q hk bf).2.1) sl en de co op)
          exact x_vret dX12_readsAll_74 rfl (xEx_i _ (by rw [← hr2]; exact ⟨hf3, _, _, hM101, hK2, hB2, fun q0 => (hz2 (ee_0 q0).1).2.2⟩) rfl rfl rfl)
        · exact absurd c50 (by decide)
      · rw [if_pos hS] at hM3 hf3
        have q1 : (clP tp tn 0 q hk bf).1 = 0 := (of_decide_eq_true hS).1
        have hb40 : bf = 40 := by omega
        subst hb40
        exact absurd q1 cl_40
  | succ k ih =>
    intro bf q hk G1 hbk hC hr hq1
    obtain ⟨-, A1, p1, hM1, -⟩ := id hq1
    refine x_iload_n dX12_readsAll_49 0 rfl ?_
    refine x_ifN_eq (tgt := 69) dX12_readsAll_50 (by decide) (by omega) (fun c50 => ?_) (fun c50 => ?_)
    · exact absurd c50 (by decide)
    · refine x_aload_n dX12_readsAll_53 2 rfl ?_
      refine x_iload_n dX12_readsAll_54 1 rfl ?_
      refine x_cVe (N := mX12_hallClause) (d' := 6) (mc := 0) (ms := 0) (cb := 0) (sb := 0) (As := [.int (nI bf)]) (st := []) dX12_readsAll_55 mX12_hallClause_v lX12_311 rfl rfl (hM1.1) rfl (by decide) (Nat.le_of_ble_eq_true rfl) (Md_hallClause hT0 hlt htn hq1 hC (by omega)) rfl (sf := fun G2 => []) (fun _ => rfl) (fun G2 hq2 => ?_)
      obtain ⟨hf2, A2, p2, hM2, hK2, hB2, hp20, hz2⟩ := hq2
      have hT2 : TpE (A2 27) tp := by rw [hK2 27 (by decide)]; exact hT0
      refine x_iinc (v := nI (bf + 1)) (ls' := [(1, .int (nI (bf + 1))), (2, .int (nI 1)), (0, .ref y)]) dX12_readsAll_58 1 rfl (nIs _) (by decide) rfl ?_
      refine x_aload_n dX12_readsAll_61 2 rfl ?_
      refine x_cVe (N := mX12_goesOn) (d' := 2) (mc := 0) (ms := 0) (cb := 0) (sb := 0) (As := []) (st := []) dX12_readsAll_62 mX12_goesOn_v lX12_314 rfl rfl (hM2.1) rfl (by decide) (Nat.le_of_ble_eq_true rfl) (Md_goesOnH (q := (clP tp tn 0 q hk bf).2.1) hT2 hlt htn hM2 hp20 hf2 (fun q0 => ⟨(hz2 q0).1, (hz2 q0).2.1⟩)) rfl (sf := fun e3 => [.int (bI (isS tp tn (clP tp tn 0 q hk bf).1 (clP tp tn 0 q hk bf).2.1 59))]) (fun _ => rfl) (fun e3 hq3 => ?_)
      obtain ⟨p3, G3⟩ := e3
      obtain ⟨hM3, hs3, hf3⟩ := hq3
      change MW G0 G3 y hl r sc A2 (pF F tn p3 (if isS tp tn (clP tp tn 0 q hk bf).1 (clP tp tn 0 q hk bf).2.1 59 = true then (clP tp tn 0 q hk bf).1 else eeP tp tn (clP tp tn 0 q hk bf).1 (clP tp tn 0 q hk bf).2.1) sl en de co op) wa sa at hM3
      change isS tp tn (clP tp tn 0 q hk bf).1 (clP tp tn 0 q hk bf).2.1 59 = true → p3 ≤ tn ∧ p3 = atA tp tn (skP tp tn (clP tp tn 0 q hk bf).2.1) at hs3
      refine x_istore_n (ls' := [(2, .int (bI (isS tp tn (clP tp tn 0 q hk bf).1 (clP tp tn 0 q hk bf).2.1 59))), (1, .int (nI (bf + 1))), (0, .ref y)]) dX12_readsAll_65 (by decide) rfl ?_
      refine x_pc (pc' := 66) rfl ?_
      refine x_goto (tgt := 49) dX12_readsAll_66 (by decide) ?_
      rcases hS : isS tp tn (clP tp tn 0 q hk bf).1 (clP tp tn 0 q hk bf).2.1 59 with _ | _
      · rw [if_neg (by rw [hS]; decide)] at hM3 hf3
        have hr2 : eeH tp tn (clP tp tn 0 q hk bf) = RR := by rw [hrL_f hS] at hr; exact hr
        refine x_leq (ls' := [(2, .int (nI 0)), (1, .int (nI (bf + 1))), (0, .ref y)]) rfl ?_
        refine x_iload_n dX12_readsAll_49 0 rfl ?_
        refine x_ifN_eq (tgt := 69) dX12_readsAll_50 (by decide) (by omega) (fun c50 => ?_) (fun c50 => ?_)
        · refine x_aload_n dX12_readsAll_69 2 rfl ?_
          refine x_iconst dX12_readsAll_70 ki_0 ?_
          refine x_put (fs' := [.int (F 0), .ref (y + 1), .ref (y + 2), .ref (y + 3), .ref (y + 4), .ref (y + 5), .ref (y + 6), .ref (y + 7), .ref (y + 8), .ref (y + 9), .ref (y + 10), .ref (y + 11), .ref (y + 12), .ref (y + 13), .ref (y + 14), .ref (y + 15), .ref (y + 16), .ref (y + 17), .ref (y + 18), .ref (y + 19), .ref (y + 20), .ref (y + 21), .ref (y + 22), .ref (y + 23), .ref (y + 24), .ref (y + 25), .ref (y + 26), .int (nI 0), .int (nI p3), .int (nI (eeP tp tn (clP tp tn 0 q hk bf).1 (clP tp tn 0 q hk bf).2.1)), .int (nI sl), .int (F 31), .int (nI en), .int (nI de), .int (nI co), .int (nI op), .int (F 36), .ref (y + 27), .ref (y + 28), .ref (y + 29), .ref (y + 30), .ref (y + 31), .ref (y + 32), .ref (y + 33), .ref (y + 34), .ref (y + 35), .ref (y + 36), .ref (y + 37), .ref (y + 38), .int (F 49), .int (F 50), .int (F 51), .int (F 52), .int (F 53), .ref (y + 39), .ref (y + 40), .ref (y + 41), .int (F 57), .int (F 58), .ref (y + 42), .ref (y + 43), .ref (y + 44), .ref (y + 45), .int (F 63), .int (F 64)]) dX12_readsAll_71 fX12_159 (hM3.1) (Nat.le_of_ble_eq_true rfl) rfl rfl rfl ?_
          refine x_geq (G' := xup _ y (modO y (pF F 0 p3 (eeP tp tn (clP tp tn 0 q hk bf).1 (clP tp tn 0 q hk bf).2.1) sl en de co op))) rfl ?_
          have hM102 := hM3.fld (pF F 0 p3 (eeP tp tn (clP tp tn 0 q hk bf).1 (clP tp tn 0 q hk bf).2.1) sl en de co op)
          exact x_vret dX12_readsAll_74 rfl (xEx_i _ (by rw [← hr2]; exact ⟨hf3, _, _, hM102, hK2, hB2, fun q0 => (hz2 (ee_0 q0).1).2.2⟩) rfl rfl rfl)
        · exact absurd c50 (by decide)
      · rw [if_pos hS] at hM3 hf3
        have q1 : (clP tp tn 0 q hk bf).1 = 0 := (of_decide_eq_true hS).1
        obtain ⟨b1, b2, b3⟩ := hz2 q1
        obtain ⟨s1, s2⟩ := hs3 hS
        refine x_leq (ls' := [(2, .int (nI 1)), (1, .int (nI (bf + 1))), (0, .ref y)]) rfl ?_
        rw [q1] at hM3
        exact ih (bf + 1) (atA tp tn (skP tp tn (clP tp tn 0 q hk bf).2.1)) (clP tp tn 0 q hk bf).2.2 G3 (by omega) (clP_cnt hC) (by rw [hrL_t hS, q1] at hr; exact hr) ⟨by show 0 < 1000000; decide, A2, p3, hM3, hK2, hB2, by omega, fun _ => ⟨s1, by rw [s2], by rw [if_neg (by omega)]; exact b3⟩⟩
theorem Md_reads_l2 {K : xG} {h y : Nat} {G0 : xHp} {hl : xHl} {r : xRw} {sc : Nat × Nat × Int32} {A A0 : Nat → Nat → Int32} {F : Nat → Int32} {wa sa : Nat → Int64} {tn : Nat} {tp : Nat → Nat} {sl op : Nat} {hk : xHl} (hT0 : TpE (A 27) tp) (hlt : ∀ j, tp j < 256) (htn : tn ≤ 400) (hK : KpN A A0) (hB : NB A0) (h19 : ∀ i, i < 5 → A0 19 i = 0) : ∀ (i k : Nat) (G1 : xHp), k + i = 16 → MW G0 G1 y hl r sc (setA A0 22 (clF (A0 22) (-1) k)) (pF F tn 0 0 sl 0 0 0 op) wa sa → xV K mX12_readsAll 7 0 0 h G1 26 [(1, .int (nI k)), (0, .ref y)] [] (xEx (fun G' => HE G0 G' y hl r sc A F wa sa 0 sl 0 0 0 op 0 (eeH tp tn (hrL tp tn 40 1 (clP tp tn 0 0 (hlClr hk) 0)))) (fun _ => none) (fun _ => h) (fun G' => G')) := by
  intro i
  induction i with
  | zero =>
    intro k G1 hi hN
    have hi0 : k = 16 := by omega
    subst hi0
    refine x_iload_n dX12_readsAll_26 0 rfl ?_
    refine x_bipush dX12_readsAll_27 kb_16 ?_
    refine x_icmpN_ge (tgt := 45) dX12_readsAll_29 (by decide) (by omega) (by omega) (fun c29 => ?_) (fun c29 => ?_)
    · refine x_iconst dX12_readsAll_45 ki_0 ?_
      refine x_istore_n (ls' := [(1, .int (nI 0)), (0, .ref y)]) dX12_readsAll_46 (by decide) rfl ?_
      refine x_iconst dX12_readsAll_47 ki_1 ?_
      refine x_istore_n (ls' := [(2, .int (nI 1)), (1, .int (nI 0)), (0, .ref y)]) dX12_readsAll_48 (by decide) rfl ?_
      exact Md_reads_loop (A0 := A) hT0 hlt htn 40 0 0 (hlClr hk) G1 (by decide) (hlClr_c hk) rfl ⟨by show 0 < 1000000; decide, _, 0, hN, hK.st (by decide), hB.s9 (Or.inr rfl), by omega, fun _ => ⟨by omega, rfl, NH.clr (fun i hi => by rw [setA_ne (by decide)]; exact h19 i hi) (fun j hj => by rw [setA_at]; exact if_pos hj)⟩⟩
    · exact absurd c29 (by omega)
  | succ i ih =>
    intro k G1 hi hN
    refine x_iload_n dX12_readsAll_26 0 rfl ?_
    refine x_bipush dX12_readsAll_27 kb_16 ?_
    refine x_icmpN_ge (tgt := 45) dX12_readsAll_29 (by decide) (by omega) (by omega) (fun c29 => ?_) (fun c29 => ?_)
    · exact absurd c29 (by omega)
    · refine x_aload_n dX12_readsAll_32 1 rfl ?_
      refine x_get (v := .ref (y + 22)) dX12_readsAll_33 fX12_73 (hN.1) rfl ?_
      refine x_iload_n dX12_readsAll_36 0 rfl ?_
      refine x_iconst dX12_readsAll_37 ki_m1 ?_
      refine x_iastN (n := 16) (f := (clF (A0 22) (-1) k)) dX12_readsAll_38 (hN.c22) (by omega) (by decide) ?_
      have hM101 := hN.a22 (upd (clF (A0 22) (-1) k) k (-1))
      refine x_iinc (v := nI (k + 1)) (ls' := [(1, .int (nI (k + 1))), (0, .ref y)]) dX12_readsAll_39 0 rfl (nIs _) (by decide) rfl ?_
      refine x_pc (pc' := 42) rfl ?_
      refine x_goto (tgt := 26) dX12_readsAll_42 (by decide) ?_
      have hN2 := hM101
      rw [setA_up, clF_s] at hN2
      rw [clF_s]
      exact ih (k + 1) _ (by omega) hN2
theorem Md_readsAll {K : xG} {h y : Nat} {G0 G : xHp} {hl : xHl} {r : xRw} {hk : xHl} {sc : Nat × Nat × Int32} {A : Nat → Nat → Int32} {F : Nat → Int32} {wa sa : Nat → Int64} {tn p f sl en de co op : Nat} {tp : Nat → Nat} (hT : TpE (A 27) tp) (hlt : ∀ j, tp j < 256) (htn : tn ≤ 400) (hM : MW G0 G y hl r sc A (pF F tn p f sl en de co op) wa sa) (hB : NB A) : xCall K mX12_readsAll 7 0 0 [.ref y] h G (xEx (fun G' => HE G0 G' y hl r sc A F wa sa 0 sl 0 0 0 op 0 (eeH tp tn (hrL tp tn 40 1 (clP tp tn 0 0 (hlClr hk) 0)))) (fun _ => none) (fun _ => h) (fun G' => G')) := by
  refine x_entry (by decide) (ls := [(0, .ref y)]) rfl (Nat.le_of_ble_eq_true rfl) ?_
  refine x_aload_n dX12_readsAll_0 0 rfl ?_
  refine x_cVe (N := mX12_starts) (d' := 0) (mc := 0) (ms := 0) (cb := 0) (sb := 0) (As := []) (st := []) dX12_readsAll_1 mX12_starts_v lX12_308 rfl rfl (hM.1) rfl (by decide) (Nat.le_of_ble_eq_true rfl) (Md_starts hM) rfl (sf := fun G2 => []) (fun _ => rfl) (fun G2 hN2 => ?_)
  refine x_iconst dX12_readsAll_4 ki_0 ?_
  refine x_istore_n (ls' := [(1, .int (nI 0)), (0, .ref y)]) dX12_readsAll_5 (by decide) rfl ?_
  refine x_iload_n dX12_readsAll_6 0 rfl ?_
  refine x_iconst dX12_readsAll_7 ki_5 ?_
  refine x_icmpN_ge (tgt := 24) dX12_readsAll_8 (by decide) (by omega) (by omega) (fun c8 => ?_) (fun c8 => ?_)
  · exact absurd c8 (by decide)
  · refine x_aload_n dX12_readsAll_11 1 rfl ?_
    refine x_get (v := .ref (y + 19)) dX12_readsAll_12 fX12_64 (hN2.1) rfl ?_
    refine x_pc (pc' := 15) rfl ?_
    refine x_iload_n dX12_readsAll_15 0 rfl ?_
    refine x_iconst dX12_readsAll_16 ki_0 ?_
    refine x_iastN (n := 5) (f := A 19) dX12_readsAll_17 (hN2.c19) (by decide) (by decide) ?_
    have hM101 := hN2.a19 (upd (A 19) 0 (nI 0))
    refine x_iinc (v := nI (0 + 1)) (ls' := [(1, .int (nI (0 + 1))), (0, .ref y)]) dX12_readsAll_18 0 rfl (nIs _) (by decide) rfl ?_
    refine x_goto (tgt := 6) dX12_readsAll_21 (by decide) ?_
    refine x_leq (ls' := [(1, .int (nI 1)), (0, .ref y)]) rfl ?_
    refine x_iload_n dX12_readsAll_6 0 rfl ?_
    refine x_iconst dX12_readsAll_7 ki_5 ?_
    refine x_icmpN_ge (tgt := 24) dX12_readsAll_8 (by decide) (by omega) (by omega) (fun c8 => ?_) (fun c8 => ?_)
    · exact absurd c8 (by decide)
    · refine x_aload_n dX12_readsAll_11 1 rfl ?_
      refine x_get (v := .ref (y + 19)) dX12_readsAll_12 fX12_64 (hM101.1) rfl ?_
      refine x_pc (pc' := 15) rfl ?_
      refine x_iload_n dX12_readsAll_15 0 rfl ?_
      refine x_iconst dX12_readsAll_16 ki_0 ?_
      refine x_iastN (n := 5) (f := (upd (A 19) 0 (nI 0))) dX12_readsAll_17 (hM101.c19) (by decide) (by decide) ?_
      have hM102 := hM101.a19 (upd (upd (A 19) 0 (nI 0)) 1 (nI 0))
      refine x_iinc (v := nI (1 + 1)) (ls' := [(1, .int (nI (1 + 1))), (0, .ref y)]) dX12_readsAll_18 0 rfl (nIs _) (by decide) rfl ?_
      refine x_goto (tgt := 6) dX12_readsAll_21 (by decide) ?_
      refine x_leq (ls' := [(1, .int (nI 2)), (0, .ref y)]) rfl ?_
      refine x_iload_n dX12_readsAll_6 0 rfl ?_
      refine x_iconst dX12_readsAll_7 ki_5 ?_
      refine x_icmpN_ge (tgt := 24) dX12_readsAll_8 (by decide) (by omega) (by omega) (fun c8 => ?_) (fun c8 => ?_)
      · exact absurd c8 (by decide)
      · refine x_aload_n dX12_readsAll_11 1 rfl ?_
        refine x_get (v := .ref (y + 19)) dX12_readsAll_12 fX12_64 (hM102.1) rfl ?_
        refine x_pc (pc' := 15) rfl ?_
        refine x_iload_n dX12_readsAll_15 0 rfl ?_
        refine x_iconst dX12_readsAll_16 ki_0 ?_
        refine x_iastN (n := 5) (f := (upd (upd (A 19) 0 (nI 0)) 1 (nI 0))) dX12_readsAll_17 (hM102.c19) (by decide) (by decide) ?_
        have hM103 := hM102.a19 (upd (upd (upd (A 19) 0 (nI 0)) 1 (nI 0)) 2 (nI 0))
        refine x_iinc (v := nI (2 + 1)) (ls' := [(1, .int (nI (2 + 1))), (0, .ref y)]) dX12_readsAll_18 0 rfl (nIs _) (by decide) rfl ?_
        refine x_goto (tgt := 6) dX12_readsAll_21 (by decide) ?_
        refine x_leq (ls' := [(1, .int (nI 3)), (0, .ref y)]) rfl ?_
        refine x_iload_n dX12_readsAll_6 0 rfl ?_
        refine x_iconst dX12_readsAll_7 ki_5 ?_
        refine x_icmpN_ge (tgt := 24) dX12_readsAll_8 (by decide) (by omega) (by omega) (fun c8 => ?_) (fun c8 => ?_)
        · exact absurd c8 (by decide)
        · refine x_aload_n dX12_readsAll_11 1 rfl ?_
          refine x_get (v := .ref (y + 19)) dX12_readsAll_12 fX12_64 (hM103.1) rfl ?_
          refine x_pc (pc' := 15) rfl ?_
          refine x_iload_n dX12_readsAll_15 0 rfl ?_
          refine x_iconst dX12_readsAll_16 ki_0 ?_
          refine x_iastN (n := 5) (f := (upd (upd (upd (A 19) 0 (nI 0)) 1 (nI 0)) 2 (nI 0))) dX12_readsAll_17 (hM103.c19) (by decide) (by decide) ?_
          have hM104 := hM103.a19 (upd (upd (upd (upd (A 19) 0 (nI 0)) 1 (nI 0)) 2 (nI 0)) 3 (nI 0))
          refine x_iinc (v := nI (3 + 1)) (ls' := [(1, .int (nI (3 + 1))), (0, .ref y)]) dX12_readsAll_18 0 rfl (nIs _) (by decide) rfl ?_
          refine x_goto (tgt := 6) dX12_readsAll_21 (by decide) ?_
          refine x_leq (ls' := [(1, .int (nI 4)), (0, .ref y)]) rfl ?_
          refine x_iload_n dX12_readsAll_6 0 rfl ?_
          refine x_iconst dX12_readsAll_7 ki_5 ?_
          refine x_icmpN_ge (tgt := 24) dX12_readsAll_8 (by decide) (by omega) (by omega) (fun c8 => ?_) (fun c8 => ?_)
          · exact absurd c8 (by decide)
          · refine x_aload_n dX12_readsAll_11 1 rfl ?_
            refine x_get (v := .ref (y + 19)) dX12_readsAll_12 fX12_64 (hM104.1) rfl ?_
            refine x_pc (pc' := 15) rfl ?_
            refine x_iload_n dX12_readsAll_15 0 rfl ?_
            refine x_iconst dX12_readsAll_16 ki_0 ?_
            refine x_iastN (n := 5) (f := (upd (upd (upd (upd (A 19) 0 (nI 0)) 1 (nI 0)) 2 (nI 0)) 3 (nI 0))) dX12_readsAll_17 (hM104.c19) (by decide) (by decide) ?_
            have hM105 := hM104.a19 (upd (upd (upd (upd (upd (A 19) 0 (nI 0)) 1 (nI 0)) 2 (nI 0)) 3 (nI 0)) 4 (nI 0))
            refine x_iinc (v := nI (4 + 1)) (ls' := [(1, .int (nI (4 + 1))), (0, .ref y)]) dX12_readsAll_18 0 rfl (nIs _) (by decide) rfl ?_
            refine x_goto (tgt := 6) dX12_readsAll_21 (by decide) ?_
            refine x_leq (ls' := [(1, .int (nI 5)), (0, .ref y)]) rfl ?_
            refine x_iload_n dX12_readsAll_6 0 rfl ?_
            refine x_iconst dX12_readsAll_7 ki_5 ?_
            refine x_icmpN_ge (tgt := 24) dX12_readsAll_8 (by decide) (by omega) (by omega) (fun c8 => ?_) (fun c8 => ?_)
            · refine x_iconst dX12_readsAll_24 ki_0 ?_
              refine x_istore_n (ls' := [(1, .int (nI 0)), (0, .ref y)]) dX12_readsAll_25 (by decide) rfl ?_
              have e22 : setA (setA (setA (setA (setA (setA A 19 (upd (A 19) 0 (nI 0))) 19 (upd (upd (A 19) 0 (nI 0)) 1 (nI 0))) 19 (upd (upd (upd (A 19) 0 (nI 0)) 1 (nI 0)) 2 (nI 0))) 19 (upd (upd (upd (upd (A 19) 0 (nI 0)) 1 (nI 0)) 2 (nI 0)) 3 (nI 0))) 19 (upd (upd (upd (upd (upd (A 19) 0 (nI 0)) 1 (nI 0)) 2 (nI 0)) 3 (nI 0)) 4 (nI 0))) 22 (clF ((setA (setA (setA (setA (setA A 19 (upd (A 19) 0 (nI 0))) 19 (upd (upd (A 19) 0 (nI 0)) 1 (nI 0))) 19 (upd (upd (upd (A 19) 0 (nI 0)) 1 (nI 0)) 2 (nI 0))) 19 (upd (upd (upd (upd (A 19) 0 (nI 0)) 1 (nI 0)) 2 (nI 0)) 3 (nI 0))) 19 (upd (upd (upd (upd (upd (A 19) 0 (nI 0)) 1 (nI 0)) 2 (nI 0)) 3 (nI 0)) 4 (nI 0))) 22) (-1) 0) = (setA (setA (setA (setA (setA A 19 (upd (A 19) 0 (nI 0))) 19 (upd (upd (A 19) 0 (nI 0)) 1 (nI 0))) 19 (upd (upd (upd (A 19) 0 (nI 0)) 1 (nI 0)) 2 (nI 0))) 19 (upd (upd (upd (upd (A 19) 0 (nI 0)) 1 (nI 0)) 2 (nI 0)) 3 (nI 0))) 19 (upd (upd (upd (upd (upd (A 19) 0 (nI 0)) 1 (nI 0)) 2 (nI 0)) 3 (nI 0)) 4 (nI 0))) := by rw [clF_0]; exact setA_self rfl
              exact Md_reads_l2 (A0 := (setA (setA (setA (setA (setA A 19 (upd (A 19) 0 (nI 0))) 19 (upd (upd (A 19) 0 (nI 0)) 1 (nI 0))) 19 (upd (upd (upd (A 19) 0 (nI 0)) 1 (nI 0)) 2 (nI 0))) 19 (upd (upd (upd (upd (A 19) 0 (nI 0)) 1 (nI 0)) 2 (nI 0)) 3 (nI 0))) 19 (upd (upd (upd (upd (upd (A 19) 0 (nI 0)) 1 (nI 0)) 2 (nI 0)) 3 (nI 0)) 4 (nI 0)))) hT hlt htn (((((KpN.rf.st (by decide)).st (by decide)).st (by decide)).st (by decide)).st (by decide)) (((((hB.s9 (Or.inl rfl)).s9 (Or.inl rfl)).s9 (Or.inl rfl)).s9 (Or.inl rfl)).s9 (Or.inl rfl)) (fun i hi => by rw [setA_at]; have hi5 : i = 0 ∨ i = 1 ∨ i = 2 ∨ i = 3 ∨ i = 4 := (by omega); rcases hi5 with e | e | e | e | e <;> subst e <;> rfl) 16 0 _ (by decide) (by rw [e22]; exact hM105)
            · exact absurd c8 (by decide)
theorem Md_hall {K : xG} {h y : Nat} {G0 G : xHp} {hl : xHl} {r : xRw} {hk : xHl} {sc : Nat × Nat × Int32} {A : Nat → Nat → Int32} {F : Nat → Int32} {wa sa : Nat → Int64} {tn p f sl en de co op : Nat} {tp : Nat → Nat} (hT : TpE (A 27) tp) (hlt : ∀ j, tp j < 256) (htn : tn ≤ 400) (hM : MW G0 G y hl r sc A (pF F tn p f sl en de co op) wa sa) (hB : NB A) (hkb : (hallP tp tn hk).1 = 0 → (∀ i j, (hallP tp tn hk).2 i j < 1000000) ∧ CntOk (hallP tp tn hk).2) : xCall K mX12_hall 8 0 0 [.ref y] h G (xEx (fun e : (xHl × (Nat → Nat → Int32) × (Nat → Int32)) × xHp => (if (hallP tp tn hk).1 = 0 then MW G0 e.2 y e.1.1 (clearR e.1.1) (0, sc.2) e.1.2.1 e.1.2.2 wa sa ∧ VisH (hallP tp tn hk).2 e.1.1 ∧ (∀ j, 16 ≤ j → e.1.1 3 j = hl 3 j) ∧ e.1.2.2 49 = nI 0 else MW G0 e.2 y hl r sc e.1.2.1 e.1.2.2 wa sa ∧ e.1.2.2 49 = F 49) ∧ KpN A e.1.2.1 ∧ NB e.1.2.1 ∧ e.1.2.2 27 = nI 0 ∧ e.1.2.2 31 = F 31 ∧ e.1.2.2 36 = F 36) (fun _ => some (.int (if (hallP tp tn hk).1 = 0 then nI ((hallP tp tn hk).2 0 4) else -2 - nI (hallP tp tn hk).1))) (fun _ => h) (fun e => e.2)) := by
  refine x_entry (by decide) (ls := [(0, .ref y)]) rfl (Nat.le_of_ble_eq_true rfl) ?_
  refine x_aload_n dX12_hall_0 0 rfl ?_
  refine x_cVe (N := mX12_readsAll) (d' := 7) (mc := 0) (ms := 0) (cb := 0) (sb := 0) (As := []) (st := []) dX12_hall_1 mX12_readsAll_v lX12_321 rfl rfl (hM.1) rfl (by decide) (Nat.le_of_ble_eq_true rfl) (Md_readsAll (hk := hk) hT hlt htn hM hB) rfl (sf := fun G2 => []) (fun _ => rfl) (fun G2 hq2 => ?_)
  rw [hall_ee] at hq2
  obtain ⟨hf2, A2, p2, hM2, hK2, hB2, hz2⟩ := hq2
  change MW G0 G2 y hl r sc A2 (pF F 0 p2 (hallP tp tn hk).1 sl 0 0 0 op) wa sa at hM2
  change (hallP tp tn hk).1 < 1000000 at hf2
  change (hallP tp tn hk).1 = 0 → NH A2 (hallP tp tn hk).2 0 at hz2
  refine x_aload_n dX12_hall_4 0 rfl ?_
  refine x_get (v := .int (nI ((hallP tp tn hk).1))) dX12_hall_5 fX12_187 (hM2.1) rfl ?_
  refine x_ifN_le (tgt := 19) dX12_hall_8 (by decide) (by omega) (fun c8 => ?_) (fun c8 => ?_)
  · have h0 : (hallP tp tn hk).1 = 0 := by omega
    obtain ⟨n1, n2, n3, n4⟩ := hz2 h0
    obtain ⟨hkb1, hkb2⟩ := hkb h0
    refine x_iconst dX12_hall_19 ki_0 ?_
    refine x_istore_n (ls' := [(1, .int (nI 0)), (0, .ref y)]) dX12_hall_20 (by decide) rfl ?_
    refine x_iload_n dX12_hall_21 0 rfl ?_
    refine x_bipush dX12_hall_22 kb_7 ?_
    refine x_pc (pc' := 24) rfl ?_
    refine x_icmpN_ge (tgt := 54) dX12_hall_24 (by decide) (by omega) (by omega) (fun c24 => ?_) (fun c24 => ?_)
    · exact absurd c24 (by decide)
    · refine x_aload_n dX12_hall_27 1 rfl ?_
      refine x_get (v := .ref (y + 1)) dX12_hall_28 fX12_9 (hM2.1) rfl ?_
      refine x_iload_n dX12_hall_31 0 rfl ?_
      refine x_iload_n dX12_hall_32 0 rfl ?_
      refine x_iconst dX12_hall_33 ki_5 ?_
      refine x_icmpN_ge (tgt := 46) dX12_hall_34 (by decide) (by omega) (by omega) (fun c34 => ?_) (fun c34 => ?_)
      · exact absurd c34 (by decide)
      · refine x_aload_n dX12_hall_37 1 rfl ?_
        refine x_get (v := .ref (y + 19)) dX12_hall_38 fX12_64 (hM2.1) rfl ?_
        refine x_iload_n dX12_hall_41 0 rfl ?_
        refine x_pc (pc' := 42) rfl ?_
        refine x_ialdN (n := 5) (f := A2 19) dX12_hall_42 (hM2.c19) (by decide) (by decide) ?_
        refine x_topi (y := nI ((hallP tp tn hk).2 0 0)) (n1 0 (by omega) (by decide)) ?_
        refine x_goto (tgt := 47) dX12_hall_43 (by decide) ?_
        refine x_iastN (n := 9) (f := scal hl r sc) dX12_hall_47 (hM2.c1) (by decide) (by decide) ?_
        have hM101 := hM2.e1 0 ((hallP tp tn hk).2 0 0) (by decide) (hkb1 0 0)
        refine x_iinc (v := nI (0 + 1)) (ls' := [(1, .int (nI (0 + 1))), (0, .ref y)]) dX12_hall_48 0 rfl (nIs _) (by decide) rfl ?_
        refine x_goto (tgt := 21) dX12_hall_51 (by decide) ?_
        refine x_leq (ls' := [(1, .int (nI 1)), (0, .ref y)]) rfl ?_
        refine x_iload_n dX12_hall_21 0 rfl ?_
        refine x_bipush dX12_hall_22 kb_7 ?_
        refine x_icmpN_ge (tgt := 54) dX12_hall_24 (by decide) (by omega) (by omega) (fun c24 => ?_) (fun c24 => ?_)
        · exact absurd c24 (by decide)
        · refine x_aload_n dX12_hall_27 1 rfl ?_
          refine x_get (v := .ref (y + 1)) dX12_hall_28 fX12_9 (hM101.1) rfl ?_
          refine x_pc (pc' := 31) rfl ?_
          refine x_iload_n dX12_hall_31 0 rfl ?_
          refine x_iload_n dX12_hall_32 0 rfl ?_
          refine x_iconst dX12_hall_33 ki_5 ?_
          refine x_icmpN_ge (tgt := 46) dX12_hall_34 (by decide) (by omega) (by omega) (fun c34 => ?_) (fun c34 => ?_)
          · exact absurd c34 (by decide)
          · refine x_aload_n dX12_hall_37 1 rfl ?_
            refine x_get (v := .ref (y + 19)) dX12_hall_38 fX12_64 (hM101.1) rfl ?_
            refine x_iload_n dX12_hall_41 0 rfl ?_
            refine x_ialdN (n := 5) (f := A2 19) dX12_hall_42 (hM101.c19) (by decide) (by decide) ?_
            refine x_topi (y := nI ((hallP tp tn hk).2 0 1)) (n1 1 (by omega) (by decide)) ?_
            refine x_goto (tgt := 47) dX12_hall_43 (by decide) ?_
            refine x_iastN (n := 9) (f := scal (set2 hl 0 0 ((hallP tp tn hk).2 0 0)) r sc) dX12_hall_47 (hM101.c1) (by decide) (by decide) ?_
            have hM102 := hM101.e1 1 ((hallP tp tn hk).2 0 1) (by decide) (hkb1 0 1)
            refine x_pc (pc' := 48) rfl ?_
            refine x_iinc (v := nI (1 + 1)) (ls' := [(1, .int (nI (1 + 1))), (0, .ref y)]) dX12_hall_48 0 rfl (nIs _) (by decide) rfl ?_
            refine x_goto (tgt := 21) dX12_hall_51 (by decide) ?_
            refine x_leq (ls' := [(1, .int (nI 2)), (0, .ref y)]) rfl ?_
            refine x_iload_n dX12_hall_21 0 rfl ?_
            refine x_bipush dX12_hall_22 kb_7 ?_
            refine x_icmpN_ge (tgt := 54) dX12_hall_24 (by decide) (by omega) (by omega) (fun c24 => ?_) (fun c24 => ?_)
            · exact absurd c24 (by decide)
            · refine x_aload_n dX12_hall_27 1 rfl ?_
              refine x_get (v := .ref (y + 1)) dX12_hall_28 fX12_9 (hM102.1) rfl ?_
              refine x_iload_n dX12_hall_31 0 rfl ?_
              refine x_iload_n dX12_hall_32 0 rfl ?_
              refine x_iconst dX12_hall_33 ki_5 ?_
              refine x_pc (pc' := 34) rfl ?_
              refine x_icmpN_ge (tgt := 46) dX12_hall_34 (by decide) (by omega) (by omega) (fun c34 => ?_) (fun c34 => ?_)
              · exact absurd c34 (by decide)
              · refine x_aload_n dX12_hall_37 1 rfl ?_
                refine x_get (v := .ref (y + 19)) dX12_hall_38 fX12_64 (hM102.1) rfl ?_
                refine x_iload_n dX12_hall_41 0 rfl ?_
                refine x_ialdN (n := 5) (f := A2 19) dX12_hall_42 (hM102.c19) (by decide) (by decide) ?_
                refine x_topi (y := nI ((hallP tp tn hk).2 0 2)) (n1 2 (by omega) (by decide)) ?_
                refine x_goto (tgt := 47) dX12_hall_43 (by decide) ?_
                refine x_iastN (n := 9) (f := scal (set2 (set2 hl 0 0 ((hallP tp tn hk).2 0 0)) 0 1 ((hallP tp tn hk).2 0 1)) r sc) dX12_hall_47 (hM102.c1) (by decide) (by decide) ?_
                have hM103 := hM102.e1 2 ((hallP tp tn hk).2 0 2) (by decide) (hkb1 0 2)
                refine x_iinc (v := nI (2 + 1)) (ls' := [(1, .int (nI (2 + 1))), (0, .ref y)]) dX12_hall_48 0 rfl (nIs _) (by decide) rfl ?_
                refine x_goto (tgt := 21) dX12_hall_51 (by decide) ?_
                refine x_leq (ls' := [(1, .int (nI 3)), (0, .ref y)]) rfl ?_
                refine x_iload_n dX12_hall_21 0 rfl ?_
                refine x_pc (pc' := 22) rfl ?_
                refine x_bipush dX12_hall_22 kb_7 ?_
                refine x_icmpN_ge (tgt := 54) dX12_hall_24 (by decide) (by omega) (by omega) (fun c24 => ?_) (fun c24 => ?_)
                · exact absurd c24 (by decide)
                · refine x_aload_n dX12_hall_27 1 rfl ?_
                  refine x_get (v := .ref (y + 1)) dX12_hall_28 fX12_9 (hM103.1) rfl ?_
                  refine x_iload_n dX12_hall_31 0 rfl ?_
                  refine x_iload_n dX12_hall_32 0 rfl ?_
                  refine x_iconst dX12_hall_33 ki_5 ?_
                  refine x_icmpN_ge (tgt := 46) dX12_hall_34 (by decide) (by omega) (by omega) (fun c34 => ?_) (fun c34 => ?_)
                  · exact absurd c34 (by decide)
                  · refine x_aload_n dX12_hall_37 1 rfl ?_
                    refine x_get (v := .ref (y + 19)) dX12_hall_38 fX12_64 (hM103.1) rfl ?_
                    refine x_pc (pc' := 41) rfl ?_
                    refine x_iload_n dX12_hall_41 0 rfl ?_
                    refine x_ialdN (n := 5) (f := A2 19) dX12_hall_42 (hM103.c19) (by decide) (by decide) ?_
                    refine x_topi (y := nI ((hallP tp tn hk).2 0 3)) (n1 3 (by omega) (by decide)) ?_
                    refine x_goto (tgt := 47) dX12_hall_43 (by decide) ?_
                    refine x_iastN (n := 9) (f := scal (set2 (set2 (set2 hl 0 0 ((hallP tp tn hk).2 0 0)) 0 1 ((hallP tp tn hk).2 0 1)) 0 2 ((hallP tp tn hk).2 0 2)) r sc) dX12_hall_47 (hM103.c1) (by decide) (by decide) ?_
                    have hM104 := hM103.e1 3 ((hallP tp tn hk).2 0 3) (by decide) (hkb1 0 3)
                    refine x_iinc (v := nI (3 + 1)) (ls' := [(1, .int (nI (3 + 1))), (0, .ref y)]) dX12_hall_48 0 rfl (nIs _) (by decide) rfl ?_
                    refine x_goto (tgt := 21) dX12_hall_51 (by decide) ?_
                    refine x_leq (ls' := [(1, .int (nI 4)), (0, .ref y)]) rfl ?_
                    refine x_iload_n dX12_hall_21 0 rfl ?_
                    refine x_bipush dX12_hall_22 kb_7 ?_
                    refine x_icmpN_ge (tgt := 54) dX12_hall_24 (by decide) (by omega) (by omega) (fun c24 => ?_) (fun c24 => ?_)
                    · exact absurd c24 (by decide)
                    · refine x_aload_n dX12_hall_27 1 rfl ?_
                      refine x_pc (pc' := 28) rfl ?_
                      refine x_get (v := .ref (y + 1)) dX12_hall_28 fX12_9 (hM104.1) rfl ?_
                      refine x_iload_n dX12_hall_31 0 rfl ?_
                      refine x_iload_n dX12_hall_32 0 rfl ?_
                      refine x_iconst dX12_hall_33 ki_5 ?_
                      refine x_icmpN_ge (tgt := 46) dX12_hall_34 (by decide) (by omega) (by omega) (fun c34 => ?_) (fun c34 => ?_)
                      · exact absurd c34 (by decide)
                      · refine x_aload_n dX12_hall_37 1 rfl ?_
                        refine x_get (v := .ref (y + 19)) dX12_hall_38 fX12_64 (hM104.1) rfl ?_
                        refine x_iload_n dX12_hall_41 0 rfl ?_
                        refine x_ialdN (n := 5) (f := A2 19) dX12_hall_42 (hM104.c19) (by decide) (by decide) ?_
                        refine x_topi (y := nI ((hallP tp tn hk).2 0 4)) (n1 4 (by omega) (by decide)) ?_
                        refine x_goto (tgt := 47) dX12_hall_43 (by decide) ?_
                        refine x_pc (pc' := 47) rfl ?_
                        refine x_iastN (n := 9) (f := scal (set2 (set2 (set2 (set2 hl 0 0 ((hallP tp tn hk).2 0 0)) 0 1 ((hallP tp tn hk).2 0 1)) 0 2 ((hallP tp tn hk).2 0 2)) 0 3 ((hallP tp tn hk).2 0 3)) r sc) dX12_hall_47 (hM104.c1) (by decide) (by decide) ?_
                        have hM105 := hM104.e1 4 ((hallP tp tn hk).2 0 4) (by decide) (hkb1 0 4)
                        refine x_iinc (v := nI (4 + 1)) (ls' := [(1, .int (nI (4 + 1))), (0, .ref y)]) dX12_hall_48 0 rfl (nIs _) (by decide) rfl ?_
                        refine x_goto (tgt := 21) dX12_hall_51 (by decide) ?_
                        refine x_leq (ls' := [(1, .int (nI 5)), (0, .ref y)]) rfl ?_
                        refine x_iload_n dX12_hall_21 0 rfl ?_
                        refine x_bipush dX12_hall_22 kb_7 ?_
                        refine x_icmpN_ge (tgt := 54) dX12_hall_24 (by decide) (by omega) (by omega) (fun c24 => ?_) (fun c24 => ?_)
                        · exact absurd c24 (by decide)
                        · refine x_aload_n dX12_hall_27 1 rfl ?_
                          refine x_get (v := .ref (y + 1)) dX12_hall_28 fX12_9 (hM105.1) rfl ?_
                          refine x_iload_n dX12_hall_31 0 rfl ?_
                          refine x_iload_n dX12_hall_32 0 rfl ?_
                          refine x_pc (pc' := 33) rfl ?_
                          refine x_iconst dX12_hall_33 ki_5 ?_
                          refine x_icmpN_ge (tgt := 46) dX12_hall_34 (by decide) (by omega) (by omega) (fun c34 => ?_) (fun c34 => ?_)
                          · refine x_iconst dX12_hall_46 ki_0 ?_
                            refine x_iastN (n := 9) (f := scal (set2 (set2 (set2 (set2 (set2 hl 0 0 ((hallP tp tn hk).2 0 0)) 0 1 ((hallP tp tn hk).2 0 1)) 0 2 ((hallP tp tn hk).2 0 2)) 0 3 ((hallP tp tn hk).2 0 3)) 0 4 ((hallP tp tn hk).2 0 4)) r sc) dX12_hall_47 (hM105.c1) (by decide) (by decide) ?_
                            have hM106 := hM105.s1m (nI 0)
                            refine x_iinc (v := nI (5 + 1)) (ls' := [(1, .int (nI (5 + 1))), (0, .ref y)]) dX12_hall_48 0 rfl (nIs _) (by decide) rfl ?_
                            refine x_goto (tgt := 21) dX12_hall_51 (by decide) ?_
                            refine x_leq (ls' := [(1, .int (nI 6)), (0, .ref y)]) rfl ?_
                            refine x_iload_n dX12_hall_21 0 rfl ?_
                            refine x_bipush dX12_hall_22 kb_7 ?_
                            refine x_icmpN_ge (tgt := 54) dX12_hall_24 (by decide) (by omega) (by omega) (fun c24 => ?_) (fun c24 => ?_)
                            · exact absurd c24 (by decide)
                            · refine x_aload_n dX12_hall_27 1 rfl ?_
                              refine x_pc (pc' := 28) rfl ?_
                              refine x_get (v := .ref (y + 1)) dX12_hall_28 fX12_9 (hM106.1) rfl ?_
                              refine x_iload_n dX12_hall_31 0 rfl ?_
                              refine x_iload_n dX12_hall_32 0 rfl ?_
                              refine x_iconst dX12_hall_33 ki_5 ?_
                              refine x_icmpN_ge (tgt := 46) dX12_hall_34 (by decide) (by omega) (by omega) (fun c34 => ?_) (fun c34 => ?_)
                              · refine x_iconst dX12_hall_46 ki_0 ?_
                                refine x_iastN (n := 9) (f := scal (set2 (set2 (set2 (set2 (set2 hl 0 0 ((hallP tp tn hk).2 0 0)) 0 1 ((hallP tp tn hk).2 0 1)) 0 2 ((hallP tp tn hk).2 0 2)) 0 3 ((hallP tp tn hk).2 0 3)) 0 4 ((hallP tp tn hk).2 0 4)) (upd r 0 (nI 0)) sc) dX12_hall_47 (hM106.c1) (by decide) (by decide) ?_
                                refine x_acong (g := scal (set2 (set2 (set2 (set2 (set2 hl 0 0 ((hallP tp tn hk).2 0 0)) 0 1 ((hallP tp tn hk).2 0 1)) 0 2 ((hallP tp tn hk).2 0 2)) 0 3 ((hallP tp tn hk).2 0 3)) 0 4 ((hallP tp tn hk).2 0 4)) (upd r 0 (nI 0)) (0, sc.2)) scal_6 ?_
                                refine x_gen (P := fun G' => MW G0 G' y (set2 (set2 (set2 (set2 (set2 hl 0 0 ((hallP tp tn hk).2 0 0)) 0 1 ((hallP tp tn hk).2 0 1)) 0 2 ((hallP tp tn hk).2 0 2)) 0 3 ((hallP tp tn hk).2 0 3)) 0 4 ((hallP tp tn hk).2 0 4)) (upd r 0 (nI 0)) (0, sc.2) A2 (pF F 0 p2 ((hallP tp tn hk).1) sl 0 0 0 op) wa sa) (hM106.s1c (0, sc.2)) (fun G1 hN1 => ?_)
                                refine x_iinc (v := nI (6 + 1)) (ls' := [(1, .int (nI (6 + 1))), (0, .ref y)]) dX12_hall_48 0 rfl (nIs _) (by decide) rfl ?_
                                refine x_goto (tgt := 21) dX12_hall_51 (by decide) ?_
                                refine x_leq (ls' := [(1, .int (nI 7)), (0, .ref y)]) rfl ?_
                                refine x_iload_n dX12_hall_21 0 rfl ?_
                                refine x_pc (pc' := 22) rfl ?_
                                refine x_bipush dX12_hall_22 kb_7 ?_
                                refine x_icmpN_ge (tgt := 54) dX12_hall_24 (by decide) (by omega) (by omega) (fun c24 => ?_) (fun c24 => ?_)
                                · refine x_aload_n dX12_hall_54 1 rfl ?_
                                  refine x_get (v := .ref (y + 20)) dX12_hall_55 fX12_67 (hN1.1) rfl ?_
                                  refine x_aload_n dX12_hall_58 1 rfl ?_
                                  refine x_get (v := .ref (y + 2)) dX12_hall_59 fX12_13 (hN1.1) rfl ?_
                                  obtain ⟨e5, e6⟩ := sc5 (hk := (hallP tp tn hk).2) (hl := hl)
                                  have hMz := hN1
                                  generalize hx1 : set2 (set2 (set2 (set2 (set2 hl 0 0 ((hallP tp tn hk).2 0 0)) 0 1 ((hallP tp tn hk).2 0 1)) 0 2 ((hallP tp tn hk).2 0 2)) 0 3 ((hallP tp tn hk).2 0 3)) 0 4 ((hallP tp tn hk).2 0 4) = h1 at hMz e5 e6
                                  refine x_cS (N := mX12_copies) (d' := 0) (mc := 0) (ms := 0) (cb := 0) (sb := 0) (As := [.ref (y + 20), .ref (y + 2)]) (st := []) dX12_hall_62 mX12_copies_s lX12_317 rfl (by decide) (Nat.le_of_ble_eq_true rfl) (Md_copies (n := 4) (f := A2 20) (g := nF (h1 1)) (hMz.c20) (hMz.c2) (by omega) (by decide)) rfl (st1 := []) rfl ?_
                                  refine x_geq (G' := xup _ (y + 2) (eI 0 4 (nF (cpN (A2 20) (h1 1) 4)))) (by rw [cp_nF (fun j => hB2 20 j (by decide))]) ?_
                                  have hM107 := hMz.r2 (cpN (A2 20) (h1 1) 4) (cpN_lt (fun j => hB2 20 j (by decide)) (hMz.2.2.2 1))
                                  refine x_aload_n dX12_hall_65 1 rfl ?_
                                  refine x_get (v := .ref (y + 21)) dX12_hall_66 fX12_70 (hM107.1) rfl ?_
                                  refine x_aload_n dX12_hall_69 1 rfl ?_
                                  refine x_pc (pc' := 70) rfl ?_
                                  refine x_get (v := .ref (y + 18)) dX12_hall_70 fX12_61 (hM107.1) rfl ?_
                                  refine x_cS (N := mX12_copies) (d' := 0) (mc := 0) (ms := 0) (cb := 0) (sb := 0) (As := [.ref (y + 21), .ref (y + 18)]) (st := []) dX12_hall_73 mX12_copies_s lX12_317 rfl (by decide) (Nat.le_of_ble_eq_true rfl) (Md_copies (n := 4) (f := A2 21) (g := nF ((setH h1 1 (cpN (A2 20) (h1 1) 4)) 2)) (hM107.c21) (hM107.c18) (by omega) (by decide)) rfl (st1 := []) rfl ?_
                                  refine x_geq (G' := xup _ (y + 18) (eI 0 4 (nF (cpN (A2 21) ((setH h1 1 (cpN (A2 20) (h1 1) 4)) 2) 4)))) (by rw [cp_nF (fun j => hB2 21 j (by decide))]) ?_
                                  have hM108 := hM107.r18 (cpN (A2 21) ((setH h1 1 (cpN (A2 20) (h1 1) 4)) 2) 4) (cpN_lt (fun j => hB2 21 j (by decide)) (hM107.2.2.2 2))
                                  refine x_aload_n dX12_hall_76 1 rfl ?_
                                  refine x_get (v := .ref (y + 22)) dX12_hall_77 fX12_73 (hM108.1) rfl ?_
                                  refine x_aload_n dX12_hall_80 1 rfl ?_
                                  refine x_get (v := .ref (y + 4)) dX12_hall_81 fX12_19 (hM108.1) rfl ?_
                                  refine x_cS (N := mX12_copies) (d' := 0) (mc := 0) (ms := 0) (cb := 0) (sb := 0) (As := [.ref (y + 22), .ref (y + 4)]) (st := []) dX12_hall_84 mX12_copies_s lX12_317 rfl (by decide) (Nat.le_of_ble_eq_true rfl) (Md_copies (n := 16) (f := A2 22) (g := fun j => skJ ((setH (setH h1 1 (cpN (A2 20) (h1 1) 4)) 2 (cpN (A2 21) (h1 2) 4)) 3 j)) (hM108.c22) (hM108.c4) (by omega) (by decide)) rfl (st1 := []) rfl ?_
                                  refine x_geq (G' := xup _ (y + 4) (eI 0 16 (fun j => skJ (cpS ((hallP tp tn hk).2) h1 j)))) (by rw [cp_sk (hk := (hallP tp tn hk).2) n3]; rfl) ?_
                                  have hM109 := hM108.r4 (cpS ((hallP tp tn hk).2) h1) (fun j => by unfold cpS; split; exact hkb1 3 j; exact hM108.2.2.2 3 j)
                                  refine x_aload_n dX12_hall_87 1 rfl ?_
                                  refine x_get (v := .ref (y + 23)) dX12_hall_88 fX12_76 (hM109.1) rfl ?_
                                  refine x_aload_n dX12_hall_91 1 rfl ?_
                                  refine x_pc (pc' := 92) rfl ?_
                                  refine x_get (v := .ref (y + 9)) dX12_hall_92 fX12_34 (hM109.1) rfl ?_
                                  refine x_cS (N := mX12_copies) (d' := 0) (mc := 0) (ms := 0) (cb := 0) (sb := 0) (As := [.ref (y + 23), .ref (y + 9)]) (st := []) dX12_hall_95 mX12_copies_s lX12_317 rfl (by decide) (Nat.le_of_ble_eq_true rfl) (Md_copies (n := 7) (f := A2 23) (g := nF ((setH (setH (setH h1 1 (cpN (A2 20) (h1 1) 4)) 2 (cpN (A2 21) (h1 2) 4)) 3 (cpS ((hallP tp tn hk).2) h1)) 4)) (hM109.c23) (hM109.c9) (by omega) (by decide)) rfl (st1 := []) rfl ?_
                                  refine x_geq (G' := xup _ (y + 9) (eI 0 7 (nF (cpN (A2 23) ((setH (setH (setH h1 1 (cpN (A2 20) (h1 1) 4)) 2 (cpN (A2 21) (h1 2) 4)) 3 (cpS ((hallP tp tn hk).2) h1)) 4) 7)))) (by rw [cp_nF (fun j => hB2 23 j (by decide))]) ?_
                                  have hM110 := hM109.r9 (cpN (A2 23) ((setH (setH (setH h1 1 (cpN (A2 20) (h1 1) 4)) 2 (cpN (A2 21) (h1 2) 4)) 3 (cpS ((hallP tp tn hk).2) h1)) 4) 7) (cpN_lt (fun j => hB2 23 j (by decide)) (hM109.2.2.2 4))
                                  refine x_aload_n dX12_hall_98 1 rfl ?_
                                  refine x_get (v := .ref (y + 24)) dX12_hall_99 fX12_79 (hM110.1) rfl ?_
                                  refine x_aload_n dX12_hall_102 1 rfl ?_
                                  refine x_get (v := .ref (y + 10)) dX12_hall_103 fX12_37 (hM110.1) rfl ?_
                                  refine x_cS (N := mX12_copies) (d' := 0) (mc := 0) (ms := 0) (cb := 0) (sb := 0) (As := [.ref (y + 24), .ref (y + 10)]) (st := []) dX12_hall_106 mX12_copies_s lX12_317 rfl (by decide) (Nat.le_of_ble_eq_true rfl) (Md_copies (n := 7) (f := A2 24) (g := nF ((setH (setH (setH (setH h1 1 (cpN (A2 20) (h1 1) 4)) 2 (cpN (A2 21) (h1 2) 4)) 3 (cpS ((hallP tp tn hk).2) h1)) 4 (cpN (A2 23) (h1 4) 7)) 5)) (hM110.c24) (hM110.c10) (by omega) (by decide)) rfl (st1 := []) rfl ?_
                                  refine x_geq (G' := xup _ (y + 10) (eI 0 7 (nF (cpN (A2 24) ((setH (setH (setH (setH h1 1 (cpN (A2 20) (h1 1) 4)) 2 (cpN (A2 21) (h1 2) 4)) 3 (cpS ((hallP tp tn hk).2) h1)) 4 (cpN (A2 23) (h1 4) 7)) 5) 7)))) (by rw [cp_nF (fun j => hB2 24 j (by decide))]) ?_
                                  have hM111 := hM110.r10 (cpN (A2 24) ((setH (setH (setH (setH h1 1 (cpN (A2 20) (h1 1) 4)) 2 (cpN (A2 21) (h1 2) 4)) 3 (cpS ((hallP tp tn hk).2) h1)) 4 (cpN (A2 23) (h1 4) 7)) 5) 7) (cpN_lt (fun j => hB2 24 j (by decide)) (hM110.2.2.2 5))
                                  refine x_aload_n dX12_hall_109 1 rfl ?_
                                  refine x_get (v := .ref (y + 25)) dX12_hall_110 fX12_82 (hM111.1) rfl ?_
                                  refine x_aload_n dX12_hall_113 1 rfl ?_
                                  refine x_pc (pc' := 114) rfl ?_
                                  refine x_get (v := .ref (y + 11)) dX12_hall_114 fX12_40 (hM111.1) rfl ?_
                                  refine x_cS (N := mX12_copies) (d' := 0) (mc := 0) (ms := 0) (cb := 0) (sb := 0) (As := [.ref (y + 25), .ref (y + 11)]) (st := []) dX12_hall_117 mX12_copies_s lX12_317 rfl (by decide) (Nat.le_of_ble_eq_true rfl) (Md_copies (n := 7) (f := A2 25) (g := nF ((setH (setH (setH (setH (setH h1 1 (cpN (A2 20) (h1 1) 4)) 2 (cpN (A2 21) (h1 2) 4)) 3 (cpS ((hallP tp tn hk).2) h1)) 4 (cpN (A2 23) (h1 4) 7)) 5 (cpN (A2 24) (h1 5) 7)) 6)) (hM111.c25) (hM111.c11) (by omega) (by decide)) rfl (st1 := []) rfl ?_
                                  refine x_geq (G' := xup _ (y + 11) (eI 0 7 (nF (cpN (A2 25) ((setH (setH (setH (setH (setH h1 1 (cpN (A2 20) (h1 1) 4)) 2 (cpN (A2 21) (h1 2) 4)) 3 (cpS ((hallP tp tn hk).2) h1)) 4 (cpN (A2 23) (h1 4) 7)) 5 (cpN (A2 24) (h1 5) 7)) 6) 7)))) (by rw [cp_nF (fun j => hB2 25 j (by decide))]) ?_
                                  have hM112 := hM111.r11 (cpN (A2 25) ((setH (setH (setH (setH (setH h1 1 (cpN (A2 20) (h1 1) 4)) 2 (cpN (A2 21) (h1 2) 4)) 3 (cpS ((hallP tp tn hk).2) h1)) 4 (cpN (A2 23) (h1 4) 7)) 5 (cpN (A2 24) (h1 5) 7)) 6) 7) (cpN_lt (fun j => hB2 25 j (by decide)) (hM111.2.2.2 6))
                                  refine x_aload_n dX12_hall_120 1 rfl ?_
                                  refine x_get (v := .ref (y + 26)) dX12_hall_121 fX12_85 (hM112.1) rfl ?_
                                  refine x_aload_n dX12_hall_124 1 rfl ?_
                                  refine x_get (v := .ref (y + 12)) dX12_hall_125 fX12_43 (hM112.1) rfl ?_
                                  refine x_cS (N := mX12_copies) (d' := 0) (mc := 0) (ms := 0) (cb := 0) (sb := 0) (As := [.ref (y + 26), .ref (y + 12)]) (st := []) dX12_hall_128 mX12_copies_s lX12_317 rfl (by decide) (Nat.le_of_ble_eq_true rfl) (Md_copies (n := 7) (f := A2 26) (g := nF ((setH (setH (setH (setH (setH (setH h1 1 (cpN (A2 20) (h1 1) 4)) 2 (cpN (A2 21) (h1 2) 4)) 3 (cpS ((hallP tp tn hk).2) h1)) 4 (cpN (A2 23) (h1 4) 7)) 5 (cpN (A2 24) (h1 5) 7)) 6 (cpN (A2 25) (h1 6) 7)) 7)) (hM112.c26) (hM112.c12) (by omega) (by decide)) rfl (st1 := []) rfl ?_
                                  refine x_geq (G' := xup _ (y + 12) (eI 0 7 (nF (cpN (A2 26) ((setH (setH (setH (setH (setH (setH h1 1 (cpN (A2 20) (h1 1) 4)) 2 (cpN (A2 21) (h1 2) 4)) 3 (cpS ((hallP tp tn hk).2) h1)) 4 (cpN (A2 23) (h1 4) 7)) 5 (cpN (A2 24) (h1 5) 7)) 6 (cpN (A2 25) (h1 6) 7)) 7) 7)))) (by rw [cp_nF (fun j => hB2 26 j (by decide))]) ?_
                                  have hM113 := hM112.r12 (cpN (A2 26) ((setH (setH (setH (setH (setH (setH h1 1 (cpN (A2 20) (h1 1) 4)) 2 (cpN (A2 21) (h1 2) 4)) 3 (cpS ((hallP tp tn hk).2) h1)) 4 (cpN (A2 23) (h1 4) 7)) 5 (cpN (A2 24) (h1 5) 7)) 6 (cpN (A2 25) (h1 6) 7)) 7) 7) (cpN_lt (fun j => hB2 26 j (by decide)) (hM112.2.2.2 7))
                                  refine x_aload_n dX12_hall_131 1 rfl ?_
                                  have hMy : MW G0 _ y (hlN A2 ((hallP tp tn hk).2) h1) (upd r 0 (nI 0)) (0, sc.2) A2 (pF F 0 p2 ((hallP tp tn hk).1) sl 0 0 0 op) wa sa := hM113
                                  refine x_cVe (N := mX12_begins) (d' := 1) (mc := 0) (ms := 0) (cb := 0) (sb := 0) (As := []) (st := []) dX12_hall_132 mX12_begins_v lX12_324 rfl rfl (hM113.1) rfl (by decide) (Nat.le_of_ble_eq_true rfl) (Md_begins hMy) rfl (sf := fun G4 => []) (fun _ => rfl) (fun G4 hN4 => ?_)
                                  refine x_aload_n dX12_hall_135 1 rfl ?_
                                  refine x_pc (pc' := 136) rfl ?_
                                  refine x_iconst dX12_hall_136 ki_0 ?_
                                  refine x_put (fs' := [.int (F 0), .ref (y + 1), .ref (y + 2), .ref (y + 3), .ref (y + 4), .ref (y + 5), .ref (y + 6), .ref (y + 7), .ref (y + 8), .ref (y + 9), .ref (y + 10), .ref (y + 11), .ref (y + 12), .ref (y + 13), .ref (y + 14), .ref (y + 15), .ref (y + 16), .ref (y + 17), .ref (y + 18), .ref (y + 19), .ref (y + 20), .ref (y + 21), .ref (y + 22), .ref (y + 23), .ref (y + 24), .ref (y + 25), .ref (y + 26), .int (nI 0), .int (nI p2), .int (nI ((hallP tp tn hk).1)), .int (nI sl), .int (F 31), .int (nI 0), .int (nI 0), .int (nI 0), .int (nI op), .int (F 36), .ref (y + 27), .ref (y + 28), .ref (y + 29), .ref (y + 30), .ref (y + 31), .ref (y + 32), .ref (y + 33), .ref (y + 34), .ref (y + 35), .ref (y + 36), .ref (y + 37), .ref (y + 38), .int (nI 0), .int (F 50), .int (F 51), .int (F 52), .int (F 53), .ref (y + 39), .ref (y + 40), .ref (y + 41), .int (F 57), .int (F 58), .ref (y + 42), .ref (y + 43), .ref (y + 44), .ref (y + 45), .int (F 63), .int (F 64)]) dX12_hall_137 fX12_327 (hN4.1) (Nat.le_of_ble_eq_true rfl) rfl rfl rfl ?_
                                  refine x_geq (G' := xup _ y (modO y (upd (pF F 0 p2 ((hallP tp tn hk).1) sl 0 0 0 op) 49 (nI 0)))) rfl ?_
                                  have hM114 := hN4.fld (upd (pF F 0 p2 ((hallP tp tn hk).1) sl 0 0 0 op) 49 (nI 0))
                                  refine x_aload_n dX12_hall_140 1 rfl ?_
                                  refine x_get (v := .ref (y + 1)) dX12_hall_141 fX12_9 (hM114.1) rfl ?_
                                  refine x_iconst dX12_hall_144 ki_4 ?_
                                  refine x_ialdN (n := 9) (f := scal (hlN A2 ((hallP tp tn hk).2) h1) (clearR (hlN A2 ((hallP tp tn hk).2) h1)) (0, sc.2)) dX12_hall_145 (hM114.c1) (by decide) (by decide) ?_
                                  refine x_topi (y := nI ((hlN A2 ((hallP tp tn hk).2) h1) 0 4)) rfl ?_
                                  have hvs := vis_new (h1 := h1) (hz2 h0) hkb2 hkb1 e5
                                  exact x_iret dX12_hall_146 rfl (xEx_i (((hlN A2 ((hallP tp tn hk).2) h1), A2, (upd (pF F 0 p2 ((hallP tp tn hk).1) sl 0 0 0 op) 49 (nI 0))), _) ⟨by rw [if_pos h0]; exact ⟨hM114, hvs, fun j hj => (if_neg (by omega)).trans (congrFun (e6 3 (by decide)) j), rfl⟩, hK2, hB2, rfl, rfl, rfl⟩ (by rw [if_pos h0]; exact congrArg (fun v => some (Value.int (nI v))) (hvs.1 4 (by decide))) rfl rfl)
                                · exact absurd c24 (by decide)
                              · exact absurd c34 (by decide)
                          · exact absurd c34 (by decide)
  · refine x_bipush dX12_hall_11 kb_m2 ?_
    refine x_aload_n dX12_hall_13 0 rfl ?_
    refine x_get (v := .int (nI ((hallP tp tn hk).1))) dX12_hall_14 fX12_187 (hM2.1) rfl ?_
    refine x_isub dX12_hall_17 ?_
    refine x_pc (pc' := 18) rfl ?_
    exact x_iret dX12_hall_18 rfl (xEx_i ((hl, A2, (pF F 0 p2 ((hallP tp tn hk).1) sl 0 0 0 op)), G2) ⟨by rw [if_neg (show ¬ (hallP tp tn hk).1 = 0 by omega)]; exact ⟨hM2, rfl⟩, hK2, hB2, rfl, rfl, rfl⟩ (by rw [if_neg (show ¬ (hallP tp tn hk).1 = 0 by omega)]) rfl rfl)
