theorem Md_seed_n {K : xG} {h y : Nat} {G0 G : xHp} {hl : xHl} {r : xRw} {sc : Nat × Nat × Int32} {A : Nat → Nat → Int32} {F : Nat → Int32} {wa sa : Nat → Int64} {v : Int32} (hM : MW G0 G y hl r sc A F wa sa) (hO : HallOk hl) (hn : v < 0) : xCall K mX12_seed 0 0 0 [.ref y, .int v] h G (xRet (some (.int (-1))) h G) := by
  refine x_entry (by decide) (ls := [(0, .ref y), (1, .int v)]) rfl (Nat.le_of_ble_eq_true rfl) ?_
  have hB := hM.hB
  obtain ⟨o2, o3, o4, o5, o6, o7, o8, o9⟩ := id hO
  refine x_iload_n dX12_seed_0 1 rfl ?_
  refine x_if_ge (tgt := 6) dX12_seed_1 (by decide) (fun c1 => ?_) (fun c1 => ?_)
  · exact absurd hn (Int32.not_lt.mpr c1)
  · refine x_iconst dX12_seed_4 ki_m1 ?_
    exact x_iret dX12_seed_5 rfl (xRet_i)
theorem Md_seed_y {K : xG} {h y : Nat} {G0 G : xHp} {hl : xHl} {r : xRw} {sc : Nat × Nat × Int32} {A : Nat → Nat → Int32} {F : Nat → Int32} {wa sa : Nat → Int64} {n : Nat} (hM : MW G0 G y hl r sc A F wa sa) (hO : HallOk hl) (hn : n < 2 ^ 31) : xCall K mX12_seed 0 0 0 [.ref y, .int (nI n)] h G (mdQ G0 h y (some (.int (nI sc.2.1))) hl r (sc.1, n, sc.2.2) A F wa sa) := by
  refine x_entry (by decide) (ls := [(0, .ref y), (1, .int (nI n))]) rfl (Nat.le_of_ble_eq_true rfl) ?_
  have hB := hM.hB
  obtain ⟨o2, o3, o4, o5, o6, o7, o8, o9⟩ := id hO
  refine x_iload_n dX12_seed_0 1 rfl ?_
  refine x_ifN_ge (tgt := 6) dX12_seed_1 (by decide) (by omega) (fun c1 => ?_) (fun c1 => ?_)
  · refine x_aload_n dX12_seed_6 0 rfl ?_
    refine x_get (v := .ref (y + 1)) dX12_seed_7 fX12_9 (hM.1) rfl ?_
    refine x_bipush dX12_seed_10 kb_7 ?_
    refine x_ialdN (n := 9) (f := scal hl r sc) dX12_seed_12 (hM.c1) (by decide) (by decide) ?_
    refine x_topi (y := nI sc.2.1) rfl ?_
    refine x_istore_n (ls' := [(2, .int (nI sc.2.1)), (0, .ref y), (1, .int (nI n))]) dX12_seed_13 (by decide) rfl ?_
    refine x_aload_n dX12_seed_14 1 rfl ?_
    refine x_get (v := .ref (y + 1)) dX12_seed_15 fX12_9 (hM.1) rfl ?_
    refine x_pc (pc' := 18) rfl ?_
    refine x_bipush dX12_seed_18 kb_7 ?_
    refine x_iload_n dX12_seed_20 2 rfl ?_
    refine x_iastN (n := 9) (f := scal hl r sc) dX12_seed_21 (hM.c1) (by decide) (by decide) ?_
    refine x_acong (g := scal hl r (sc.1, n, sc.2.2)) scal_7 ?_
    refine x_gen (P := fun G' => MW G0 G' y hl r (sc.1, n, sc.2.2) A F wa sa) (hM.s1c (sc.1, n, sc.2.2)) (fun G1 hN1 => ?_)
    refine x_iload_n dX12_seed_22 0 rfl ?_
    exact x_iret dX12_seed_23 rfl (xEx_i _ hN1 rfl rfl rfl)
  · exact c1.elim
theorem Md_book_c {K : xG} {h y : Nat} {G0 G : xHp} {hl : xHl} {r : xRw} {sc : Nat × Nat × Int32} {A : Nat → Nat → Int32} {F : Nat → Int32} {wa sa : Nat → Int64} {v w : Int32} (hM : MW G0 G y hl r sc A F wa sa) (hO : HallOk hl) : xCall K mX12_book 2 0 0 [.ref y, .int (-1), .int v, .int w] h G (mdQ G0 h y (some (.int (nI 0))) hl r (0, sc.2) A F wa sa) := by
  refine x_entry (by decide) (ls := [(0, .ref y), (1, .int (-1)), (2, .int v), (3, .int w)]) rfl (Nat.le_of_ble_eq_true rfl) ?_
  have hB := hM.hB
  obtain ⟨o2, o3, o4, o5, o6, o7, o8, o9⟩ := id hO
  refine x_iload_n dX12_book_0 1 rfl ?_
  refine x_iconst dX12_book_1 ki_m1 ?_
  refine x_icmp_ne (x := (-1)) (y := (-1)) (tgt := 15) dX12_book_2 (by decide) (fun c2 => ?_) (fun c2 => ?_)
  · exact absurd rfl c2
  · refine x_aload_n dX12_book_5 0 rfl ?_
    refine x_get (v := .ref (y + 1)) dX12_book_6 fX12_9 (hM.1) rfl ?_
    refine x_bipush dX12_book_9 kb_6 ?_
    refine x_iconst dX12_book_11 ki_0 ?_
    refine x_iastN (n := 9) (f := scal hl r sc) dX12_book_12 (hM.c1) (by decide) (by decide) ?_
    refine x_acong (g := scal hl r (0, sc.2)) scal_6 ?_
    refine x_gen (P := fun G' => MW G0 G' y hl r (0, sc.2) A F wa sa) (hM.s1c (0, sc.2)) (fun G1 hN1 => ?_)
    refine x_iconst dX12_book_13 ki_0 ?_
    refine x_pc (pc' := 14) rfl ?_
    exact x_iret dX12_book_14 rfl (xEx_i _ hN1 rfl rfl rfl)
theorem Md_book_n {K : xG} {h y : Nat} {G0 G : xHp} {hl : xHl} {r : xRw} {sc : Nat × Nat × Int32} {A : Nat → Nat → Int32} {F : Nat → Int32} {wa sa : Nat → Int64} {u v w : Int32} (hM : MW G0 G y hl r sc A F wa sa) (hO : HallOk hl) (hu : ¬ u = -1) (h10 : sc.1 ≤ 10) (hn : ¬ (inR u 400 = true ∧ inR v (hl 0 4) = true ∧ inR w 5 = true ∧ sc.1 < 10)) : xCall K mX12_book 2 0 0 [.ref y, .int u, .int v, .int w] h G (xRet (some (.int (-2))) h G) := by
  refine x_entry (by decide) (ls := [(0, .ref y), (1, .int u), (2, .int v), (3, .int w)]) rfl (Nat.le_of_ble_eq_true rfl) ?_
  have hB := hM.hB
  obtain ⟨o2, o3, o4, o5, o6, o7, o8, o9⟩ := id hO
  refine x_iload_n dX12_book_0 1 rfl ?_
  refine x_iconst dX12_book_1 ki_m1 ?_
  refine x_icmp_ne (x := u) (y := (-1)) (tgt := 15) dX12_book_2 (by decide) (fun c2 => ?_) (fun c2 => ?_)
  · refine x_aload_n dX12_book_15 0 rfl ?_
    refine x_get (v := .ref (y + 1)) dX12_book_16 fX12_9 (hM.1) rfl ?_
    refine x_bipush dX12_book_19 kb_6 ?_
    refine x_ialdN (n := 9) (f := scal hl r sc) dX12_book_21 (hM.c1) (by decide) (by decide) ?_
    refine x_topi (y := nI sc.1) rfl ?_
    refine x_istore (ls' := [(4, .int (nI sc.1)), (0, .ref y), (1, .int u), (2, .int v), (3, .int w)]) dX12_book_22 (by decide) rfl ?_
    refine x_iload_n dX12_book_24 2 rfl ?_
    refine x_pc (pc' := 25) rfl ?_
    refine x_i2l dX12_book_25 ?_
    refine x_lconst (v := 0) dX12_book_26 rfl ?_
    refine x_ldc2 dX12_book_27 cX12_484 ?_
    refine x_cS (N := mX12_in) (d' := 0) (mc := 0) (ms := 0) (cb := 0) (sb := 0) (As := [.long u.toInt64, .long 0, .long (399 : Int64)]) (st := []) dX12_book_30 mX12_in_s lX12_155 rfl (by decide) (Nat.le_of_ble_eq_true rfl) (Md_in) rfl (st1 := [.int (bI (decide (0 ≤ u.toInt64 ∧ u.toInt64 ≤ (399 : Int64))))]) rfl ?_
    refine x_ifB_eq (tgt := 63) dX12_book_33 (by decide) (fun c33 => ?_) (fun c33 => ?_)
    · refine x_bipush dX12_book_63 kb_m2 ?_
      exact x_iret dX12_book_65 rfl (xRet_i)
    · refine x_aload_n dX12_book_36 1 rfl ?_
      refine x_iload_n dX12_book_37 3 rfl ?_
      refine x_cV (N := mX12_isThing) (d' := 1) (mc := 0) (ms := 0) (cb := 0) (sb := 0) (As := [.int v]) (st := []) dX12_book_38 mX12_isThing_v lX12_360 rfl rfl (hM.1) rfl (by decide) (Nat.le_of_ble_eq_true rfl) (Md_isThing hM) rfl (st1 := [.int (bI (inR v (hl 0 4)))]) rfl ?_
      refine x_ifB_eq (tgt := 63) dX12_book_41 (by decide) (fun c41 => ?_) (fun c41 => ?_)
      · refine x_bipush dX12_book_63 kb_m2 ?_
        refine x_pc (pc' := 65) rfl ?_
        exact x_iret dX12_book_65 rfl (xRet_i)
      · refine x_iload_n dX12_book_44 4 rfl ?_
        refine x_pc (pc' := 45) rfl ?_
        refine x_i2l dX12_book_45 ?_
        refine x_lconst (v := 0) dX12_book_46 rfl ?_
        refine x_ldc2 dX12_book_47 cX12_486 ?_
        refine x_cS (N := mX12_in) (d' := 0) (mc := 0) (ms := 0) (cb := 0) (sb := 0) (As := [.long w.toInt64, .long 0, .long (4 : Int64)]) (st := []) dX12_book_50 mX12_in_s lX12_155 rfl (by decide) (Nat.le_of_ble_eq_true rfl) (Md_in) rfl (st1 := [.int (bI (decide (0 ≤ w.toInt64 ∧ w.toInt64 ≤ (4 : Int64))))]) rfl ?_
        refine x_ifB_eq (tgt := 63) dX12_book_53 (by decide) (fun c53 => ?_) (fun c53 => ?_)
        · refine x_bipush dX12_book_63 kb_m2 ?_
          exact x_iret dX12_book_65 rfl (xRet_i)
        · refine x_iload dX12_book_56 0 rfl ?_
          refine x_bipush dX12_book_58 kb_10 ?_
          refine x_icmpN_ne (tgt := 66) dX12_book_60 (by decide) (by omega) (by omega) (fun c60 => ?_) (fun c60 => ?_)
          · exact absurd ⟨(in_399 u).symm.trans c33, c41, (in_4 w).symm.trans c53, by omega⟩ hn
          · refine x_bipush dX12_book_63 kb_m2 ?_
            exact x_iret dX12_book_65 rfl (xRet_i)
  · exact absurd c2 hu
theorem Md_book_y {K : xG} {h y : Nat} {G0 G : xHp} {hl : xHl} {r : xRw} {sc : Nat × Nat × Int32} {A : Nat → Nat → Int32} {F : Nat → Int32} {wa sa : Nat → Int64} {n t w : Nat} (hM : MW G0 G y hl r sc A F wa sa) (hO : HallOk hl) (hn : n < 400) (ht : t < hl 0 4) (hw : w < 5) (h10 : sc.1 < 10) : xCall K mX12_book 2 0 0 [.ref y, .int (nI n), .int (nI t), .int (nI w)] h G (mdQ G0 h y (some (.int (nI (sc.1 + 1)))) hl r (sc.1 + 1, sc.2) (setA (setA (setA A 15 (upd (A 15) sc.1 (nI n))) 16 (upd (A 16) sc.1 (nI t))) 17 (upd (A 17) sc.1 (nI w))) F wa sa) := by
  refine x_entry (by decide) (ls := [(0, .ref y), (1, .int (nI n)), (2, .int (nI t)), (3, .int (nI w))]) rfl (Nat.le_of_ble_eq_true rfl) ?_
  have hB := hM.hB
  obtain ⟨o2, o3, o4, o5, o6, o7, o8, o9⟩ := id hO
  refine x_iload_n dX12_book_0 1 rfl ?_
  refine x_iconst dX12_book_1 ki_m1 ?_
  refine x_icmp_ne (x := nI n) (y := (-1)) (tgt := 15) dX12_book_2 (by decide) (fun c2 => ?_) (fun c2 => ?_)
  · refine x_aload_n dX12_book_15 0 rfl ?_
    refine x_get (v := .ref (y + 1)) dX12_book_16 fX12_9 (hM.1) rfl ?_
    refine x_bipush dX12_book_19 kb_6 ?_
    refine x_ialdN (n := 9) (f := scal hl r sc) dX12_book_21 (hM.c1) (by decide) (by decide) ?_
    refine x_topi (y := nI sc.1) rfl ?_
    refine x_istore (ls' := [(4, .int (nI sc.1)), (0, .ref y), (1, .int (nI n)), (2, .int (nI t)), (3, .int (nI w))]) dX12_book_22 (by decide) rfl ?_
    refine x_iload_n dX12_book_24 2 rfl ?_
    refine x_pc (pc' := 25) rfl ?_
    refine x_i2l dX12_book_25 ?_
    refine x_lconst (v := 0) dX12_book_26 rfl ?_
    refine x_ldc2 dX12_book_27 cX12_484 ?_
    refine x_cS (N := mX12_in) (d' := 0) (mc := 0) (ms := 0) (cb := 0) (sb := 0) (As := [.long ((nI n).toInt64), .long 0, .long (399 : Int64)]) (st := []) dX12_book_30 mX12_in_s lX12_155 rfl (by decide) (Nat.le_of_ble_eq_true rfl) (Md_in) rfl (st1 := [.int (bI (decide (0 ≤ (nI n).toInt64 ∧ (nI n).toInt64 ≤ (399 : Int64))))]) rfl ?_
    refine x_ifB_eq (tgt := 63) dX12_book_33 (by decide) (fun c33 => ?_) (fun c33 => ?_)
    · exact absurd c33 (by rw [in_399, inR_nI (by omega), decide_eq_true hn]; decide)
    · refine x_aload_n dX12_book_36 1 rfl ?_
      refine x_iload_n dX12_book_37 3 rfl ?_
      refine x_cV (N := mX12_isThing) (d' := 1) (mc := 0) (ms := 0) (cb := 0) (sb := 0) (As := [.int (nI t)]) (st := []) dX12_book_38 mX12_isThing_v lX12_360 rfl rfl (hM.1) rfl (by decide) (Nat.le_of_ble_eq_true rfl) (Md_isThing hM) rfl (st1 := [.int (bI (inR (nI t) (hl 0 4)))]) rfl ?_
      refine x_ifB_eq (tgt := 63) dX12_book_41 (by decide) (fun c41 => ?_) (fun c41 => ?_)
      · exact absurd c41 (by rw [inR_nI (by omega), decide_eq_true ht]; decide)
      · refine x_iload_n dX12_book_44 4 rfl ?_
        refine x_pc (pc' := 45) rfl ?_
        refine x_i2l dX12_book_45 ?_
        refine x_lconst (v := 0) dX12_book_46 rfl ?_
        refine x_ldc2 dX12_book_47 cX12_486 ?_
        refine x_cS (N := mX12_in) (d' := 0) (mc := 0) (ms := 0) (cb := 0) (sb := 0) (As := [.long ((nI w).toInt64), .long 0, .long (4 : Int64)]) (st := []) dX12_book_50 mX12_in_s lX12_155 rfl (by decide) (Nat.le_of_ble_eq_true rfl) (Md_in) rfl (st1 := [.int (bI (decide (0 ≤ (nI w).toInt64 ∧ (nI w).toInt64 ≤ (4 : Int64))))]) rfl ?_
        refine x_ifB_eq (tgt := 63) dX12_book_53 (by decide) (fun c53 => ?_) (fun c53 => ?_)
        · exact absurd c53 (by rw [in_4, inR_nI (by omega), decide_eq_true hw]; decide)
        · refine x_iload dX12_book_56 0 rfl ?_
          refine x_bipush dX12_book_58 kb_10 ?_
          refine x_icmpN_ne (tgt := 66) dX12_book_60 (by decide) (by omega) (by omega) (fun c60 => ?_) (fun c60 => ?_)
          · refine x_aload_n dX12_book_66 1 rfl ?_
            refine x_get (v := .ref (y + 15)) dX12_book_67 fX12_52 (hM.1) rfl ?_
            refine x_pc (pc' := 70) rfl ?_
            refine x_iload dX12_book_70 0 rfl ?_
            refine x_iload_n dX12_book_72 2 rfl ?_
            refine x_iastN (n := 10) (f := A 15) dX12_book_73 (hM.c15) (by omega) (by decide) ?_
            have hM1 := hM.a15 (upd (A 15) sc.1 (nI n))
            refine x_aload_n dX12_book_74 1 rfl ?_
            refine x_get (v := .ref (y + 16)) dX12_book_75 fX12_55 (hM1.1) rfl ?_
            refine x_iload dX12_book_78 0 rfl ?_
            refine x_iload_n dX12_book_80 3 rfl ?_
            refine x_iastN (n := 10) (f := A 16) dX12_book_81 (hM1.c16) (by omega) (by decide) ?_
            have hM2 := hM1.a16 (upd (A 16) sc.1 (nI t))
            refine x_aload_n dX12_book_82 1 rfl ?_
            refine x_get (v := .ref (y + 17)) dX12_book_83 fX12_58 (hM2.1) rfl ?_
            refine x_pc (pc' := 86) rfl ?_
            refine x_iload dX12_book_86 0 rfl ?_
            refine x_iload_n dX12_book_88 4 rfl ?_
            refine x_iastN (n := 10) (f := A 17) dX12_book_89 (hM2.c17) (by omega) (by decide) ?_
            have hM3 := hM2.a17 (upd (A 17) sc.1 (nI w))
            refine x_aload_n dX12_book_90 1 rfl ?_
            refine x_get (v := .ref (y + 1)) dX12_book_91 fX12_9 (hM3.1) rfl ?_
            refine x_bipush dX12_book_94 kb_6 ?_
            refine x_dup2 dX12_book_96 rfl rfl ?_
            refine x_ialdN (n := 9) (f := scal hl r sc) dX12_book_97 (hM3.c1) (by decide) (by decide) ?_
            refine x_topi (y := nI sc.1) rfl ?_
            refine x_iconst dX12_book_98 ki_1 ?_
            refine x_iaddN dX12_book_99 ?_
            refine x_pc (pc' := 100) rfl ?_
            refine x_iastN (n := 9) (f := scal hl r sc) dX12_book_100 (hM3.c1) (by decide) (by decide) ?_
            refine x_acong (g := scal hl r (sc.1 + 1, sc.2)) scal_6 ?_
            refine x_gen (P := fun G' => MW G0 G' y hl r (sc.1 + 1, sc.2) (setA (setA (setA A 15 (upd (A 15) sc.1 (nI n))) 16 (upd (A 16) sc.1 (nI t))) 17 (upd (A 17) sc.1 (nI w))) F wa sa) (hM3.s1c (sc.1 + 1, sc.2)) (fun G1 hN1 => ?_)
            refine x_iload dX12_book_101 0 rfl ?_
            refine x_iconst dX12_book_103 ki_1 ?_
            refine x_iaddN dX12_book_104 ?_
            exact x_iret dX12_book_105 rfl (xEx_i _ hN1 rfl rfl rfl)
          · exact absurd c60 (by omega)
  · exact absurd c2 (nI_ne1 (by omega))
