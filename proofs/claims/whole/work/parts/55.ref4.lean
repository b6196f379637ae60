theorem Md_cg2 {K : xG} {h y : Nat} {G0 : xHp} {hl : xHl} {r : xRw} {sc : Nat × Nat × Int32} {A : Nat → Nat → Int32} {F : Nat → Int32} {wa sa : Nat → Int64} (hO : HallOk hl) : ∀ (i t : Nat) (G1 : xHp), t + i = hl 0 4 → MW G0 G1 y hl (rg (c2V hl (r 0)) (rg (c1V hl (r 0)) r (hl 0 4)) t) sc A F wa sa → xV K mX12_comeAndGo 0 0 0 h G1 62 [(2, .int (nI t)), (1, .int (r 0)), (0, .ref y)] [] (mdQ G0 h y none hl (comeGo hl r (hl 0 4)) sc A F wa sa) := by
  obtain ⟨o2, o3, o4, o5, o6, o7, o8, o9⟩ := id hO
  intro i
  induction i with
  | zero =>
    intro t G1 hi hN
    have hi0 : t = hl 0 4 := by omega
    subst hi0
    refine x_iload_n dX12_comeAndGo_62 0 rfl ?_
    refine x_aload_n dX12_comeAndGo_63 2 rfl ?_
    refine x_get (v := .ref (y + 1)) dX12_comeAndGo_64 fX12_9 (hN.1) rfl ?_
    refine x_iconst dX12_comeAndGo_67 ki_4 ?_
    refine x_ialdN (n := 9) (f := scal hl (rg (c2V hl (r 0)) (rg (c1V hl (r 0)) r (hl 0 4)) (hl 0 4)) sc) dX12_comeAndGo_68 (hN.c1) (by decide) (by decide) ?_
    refine x_topi (y := nI (hl 0 4)) rfl ?_
    refine x_icmpN_ge (tgt := 131) dX12_comeAndGo_69 (by decide) (by omega) (by omega) (fun c69 => ?_) (fun c69 => ?_)
    · exact x_vret dX12_comeAndGo_131 rfl (xEx_i G1 (by rw [← cg_eq]; exact hN) rfl rfl rfl)
    · exact absurd c69 (by omega)
  | succ i ih =>
    intro t G1 hi hN
    have o5t := o5 t (by omega)
    refine x_iload_n dX12_comeAndGo_62 0 rfl ?_
    refine x_aload_n dX12_comeAndGo_63 2 rfl ?_
    refine x_get (v := .ref (y + 1)) dX12_comeAndGo_64 fX12_9 (hN.1) rfl ?_
    refine x_iconst dX12_comeAndGo_67 ki_4 ?_
    refine x_ialdN (n := 9) (f := scal hl (rg (c2V hl (r 0)) (rg (c1V hl (r 0)) r (hl 0 4)) t) sc) dX12_comeAndGo_68 (hN.c1) (by decide) (by decide) ?_
    refine x_topi (y := nI (hl 0 4)) rfl ?_
    refine x_icmpN_ge (tgt := 131) dX12_comeAndGo_69 (by decide) (by omega) (by omega) (fun c69 => ?_) (fun c69 => ?_)
    · exact absurd c69 (by omega)
    · refine x_aload_n dX12_comeAndGo_72 2 rfl ?_
      refine x_get (v := .ref (y + 13)) dX12_comeAndGo_73 fX12_46 (hN.1) rfl ?_
      refine x_iload_n dX12_comeAndGo_76 0 rfl ?_
      refine x_pc (pc' := 77) rfl ?_
      refine x_aload_n dX12_comeAndGo_77 2 rfl ?_
      refine x_get (v := .ref (y + 13)) dX12_comeAndGo_78 fX12_46 (hN.1) rfl ?_
      refine x_iload_n dX12_comeAndGo_81 0 rfl ?_
      refine x_ialdN (n := 7) (f := blk (rg (c2V hl (r 0)) (rg (c1V hl (r 0)) r (hl 0 4)) t) 21 7) dX12_comeAndGo_82 (hN.c13) (by omega) (by decide) ?_
      refine x_topi (y := (rg (c2V hl (r 0)) (rg (c1V hl (r 0)) r (hl 0 4)) t) (21 + t)) (blk_at (by omega)) ?_
      refine x_topi (y := (rg (c1V hl (r 0)) r (hl 0 4)) (21 + t)) (rg_at _ _ _) ?_
      refine x_iconst dX12_comeAndGo_83 ki_1 ?_
      refine x_icmp_ne (x := (rg (c1V hl (r 0)) r (hl 0 4)) (21 + t)) (y := nI 1) (tgt := 118) dX12_comeAndGo_84 (by decide) (fun c84 => ?_) (fun c84 => ?_)
      · refine x_aload_n dX12_comeAndGo_118 2 rfl ?_
        refine x_get (v := .ref (y + 13)) dX12_comeAndGo_119 fX12_46 (hN.1) rfl ?_
        refine x_iload_n dX12_comeAndGo_122 0 rfl ?_
        refine x_ialdN (n := 7) (f := blk (rg (c2V hl (r 0)) (rg (c1V hl (r 0)) r (hl 0 4)) t) 21 7) dX12_comeAndGo_123 (hN.c13) (by omega) (by decide) ?_
        refine x_topi (y := (rg (c2V hl (r 0)) (rg (c1V hl (r 0)) r (hl 0 4)) t) (21 + t)) (blk_at (by omega)) ?_
        refine x_topi (y := (rg (c1V hl (r 0)) r (hl 0 4)) (21 + t)) (rg_at _ _ _) ?_
        refine x_pc (pc' := 124) rfl ?_
        refine x_iastN (n := 7) (f := blk (rg (c2V hl (r 0)) (rg (c1V hl (r 0)) r (hl 0 4)) t) 21 7) dX12_comeAndGo_124 (hN.c13) (by omega) (by decide) ?_
        have hM1 := hN.s13 t ((rg (c1V hl (r 0)) r (hl 0 4)) (21 + t)) (by omega)
        refine x_iinc (v := nI (t + 1)) (ls' := [(2, .int (nI (t + 1))), (1, .int (r 0)), (0, .ref y)]) dX12_comeAndGo_125 0 rfl (nIs _) (by decide) rfl ?_
        refine x_goto (tgt := 62) dX12_comeAndGo_128 (by decide) ?_
        exact ih (t + 1) _ (by omega) (by rw [← rg_s' (f := c2V hl (r 0)) (c2_f (fun e => c84 e.1))]; exact hM1)
      · refine x_iload_n dX12_comeAndGo_87 1 rfl ?_
        refine x_aload_n dX12_comeAndGo_88 2 rfl ?_
        refine x_get (v := .ref (y + 10)) dX12_comeAndGo_89 fX12_37 (hN.1) rfl ?_
        refine x_iload_n dX12_comeAndGo_92 0 rfl ?_
        refine x_pc (pc' := 93) rfl ?_
        refine x_ialdN (n := 7) (f := nF (hl 5)) dX12_comeAndGo_93 (hN.c10) (by omega) (by decide) ?_
        refine x_isub dX12_comeAndGo_94 ?_
        refine x_aload_n dX12_comeAndGo_95 2 rfl ?_
        refine x_get (v := .ref (y + 1)) dX12_comeAndGo_96 fX12_9 (hN.1) rfl ?_
        refine x_iconst dX12_comeAndGo_99 ki_1 ?_
        refine x_ialdN (n := 9) (f := scal hl (rg (c2V hl (r 0)) (rg (c1V hl (r 0)) r (hl 0 4)) t) sc) dX12_comeAndGo_100 (hN.c1) (by decide) (by decide) ?_
        refine x_topi (y := nI (hl 0 1)) rfl ?_
        refine x_icmp_ge (x := (r 0) - (nI (hl 5 t))) (y := nI (hl 0 1)) (tgt := 114) dX12_comeAndGo_101 (by decide) (fun c101 => ?_) (fun c101 => ?_)
        · refine x_iconst dX12_comeAndGo_114 ki_4 ?_
          refine x_goto (tgt := 124) dX12_comeAndGo_115 (by decide) ?_
          refine x_iastN (n := 7) (f := blk (rg (c2V hl (r 0)) (rg (c1V hl (r 0)) r (hl 0 4)) t) 21 7) dX12_comeAndGo_124 (hN.c13) (by omega) (by decide) ?_
          have hM2 := hN.s13 t (nI 4) (by omega)
          refine x_pc (pc' := 125) rfl ?_
          refine x_iinc (v := nI (t + 1)) (ls' := [(2, .int (nI (t + 1))), (1, .int (r 0)), (0, .ref y)]) dX12_comeAndGo_125 0 rfl (nIs _) (by decide) rfl ?_
          refine x_goto (tgt := 62) dX12_comeAndGo_128 (by decide) ?_
          exact ih (t + 1) _ (by omega) (by rw [← rg_s' (f := c2V hl (r 0)) (c2_t c84 (Or.inl c101))]; exact hM2)
        · refine x_iload_n dX12_comeAndGo_104 1 rfl ?_
          refine x_aload_n dX12_comeAndGo_105 2 rfl ?_
          refine x_get (v := .ref (y + 1)) dX12_comeAndGo_106 fX12_9 (hN.1) rfl ?_
          refine x_pc (pc' := 109) rfl ?_
          refine x_iconst dX12_comeAndGo_109 ki_0 ?_
          refine x_ialdN (n := 9) (f := scal hl (rg (c2V hl (r 0)) (rg (c1V hl (r 0)) r (hl 0 4)) t) sc) dX12_comeAndGo_110 (hN.c1) (by decide) (by decide) ?_
          refine x_topi (y := nI (hl 0 0)) rfl ?_
          refine x_icmp_lt (x := r 0) (y := nI (hl 0 0)) (tgt := 118) dX12_comeAndGo_111 (by decide) (fun c111 => ?_) (fun c111 => ?_)
          · refine x_aload_n dX12_comeAndGo_118 2 rfl ?_
            refine x_get (v := .ref (y + 13)) dX12_comeAndGo_119 fX12_46 (hN.1) rfl ?_
            refine x_iload_n dX12_comeAndGo_122 0 rfl ?_
            refine x_ialdN (n := 7) (f := blk (rg (c2V hl (r 0)) (rg (c1V hl (r 0)) r (hl 0 4)) t) 21 7) dX12_comeAndGo_123 (hN.c13) (by omega) (by decide) ?_
            refine x_topi (y := (rg (c2V hl (r 0)) (rg (c1V hl (r 0)) r (hl 0 4)) t) (21 + t)) (blk_at (by omega)) ?_
            refine x_topi (y := (rg (c1V hl (r 0)) r (hl 0 4)) (21 + t)) (rg_at _ _ _) ?_
            refine x_iastN (n := 7) (f := blk (rg (c2V hl (r 0)) (rg (c1V hl (r 0)) r (hl 0 4)) t) 21 7) dX12_comeAndGo_124 (hN.c13) (by omega) (by decide) ?_
            have hM3 := hN.s13 t ((rg (c1V hl (r 0)) r (hl 0 4)) (21 + t)) (by omega)
            refine x_iinc (v := nI (t + 1)) (ls' := [(2, .int (nI (t + 1))), (1, .int (r 0)), (0, .ref y)]) dX12_comeAndGo_125 0 rfl (nIs _) (by decide) rfl ?_
            refine x_goto (tgt := 62) dX12_comeAndGo_128 (by decide) ?_
            exact ih (t + 1) _ (by omega) (by rw [← rg_s' (f := c2V hl (r 0)) (c2_f (fun e => e.2.elim c101 (Int32.not_le.mpr c111)))]; exact hM3)
          · refine x_iconst dX12_comeAndGo_114 ki_4 ?_
            refine x_goto (tgt := 124) dX12_comeAndGo_115 (by decide) ?_
            refine x_iastN (n := 7) (f := blk (rg (c2V hl (r 0)) (rg (c1V hl (r 0)) r (hl 0 4)) t) 21 7) dX12_comeAndGo_124 (hN.c13) (by omega) (by decide) ?_
            have hM4 := hN.s13 t (nI 4) (by omega)
            refine x_iinc (v := nI (t + 1)) (ls' := [(2, .int (nI (t + 1))), (1, .int (r 0)), (0, .ref y)]) dX12_comeAndGo_125 0 rfl (nIs _) (by decide) rfl ?_
            refine x_goto (tgt := 62) dX12_comeAndGo_128 (by decide) ?_
            exact ih (t + 1) _ (by omega) (by rw [← rg_s' (f := c2V hl (r 0)) (c2_t c84 (Or.inr (Int32.not_lt.mp c111)))]; exact hM4)
theorem Md_cg1 {K : xG} {h y : Nat} {G0 : xHp} {hl : xHl} {r : xRw} {sc : Nat × Nat × Int32} {A : Nat → Nat → Int32} {F : Nat → Int32} {wa sa : Nat → Int64} (hO : HallOk hl) : ∀ (i t : Nat) (G1 : xHp), t + i = hl 0 4 → MW G0 G1 y hl (rg (c1V hl (r 0)) r t) sc A F wa sa → xV K mX12_comeAndGo 0 0 0 h G1 9 [(2, .int (nI t)), (1, .int (r 0)), (0, .ref y)] [] (mdQ G0 h y none hl (comeGo hl r (hl 0 4)) sc A F wa sa) := by
  obtain ⟨o2, o3, o4, o5, o6, o7, o8, o9⟩ := id hO
  intro i
  induction i with
  | zero =>
    intro t G1 hi hN
    have hi0 : t = hl 0 4 := by omega
    subst hi0
    refine x_iload_n dX12_comeAndGo_9 0 rfl ?_
    refine x_aload_n dX12_comeAndGo_10 2 rfl ?_
    refine x_get (v := .ref (y + 1)) dX12_comeAndGo_11 fX12_9 (hN.1) rfl ?_
    refine x_iconst dX12_comeAndGo_14 ki_4 ?_
    refine x_ialdN (n := 9) (f := scal hl (rg (c1V hl (r 0)) r (hl 0 4)) sc) dX12_comeAndGo_15 (hN.c1) (by decide) (by decide) ?_
    refine x_topi (y := nI (hl 0 4)) rfl ?_
    refine x_icmpN_ge (tgt := 60) dX12_comeAndGo_16 (by decide) (by omega) (by omega) (fun c16 => ?_) (fun c16 => ?_)
    · refine x_iconst dX12_comeAndGo_60 ki_0 ?_
      refine x_istore_n (ls' := [(2, .int (nI 0)), (1, .int (r 0)), (0, .ref y)]) dX12_comeAndGo_61 (by decide) rfl ?_
      exact Md_cg2 hO (hl 0 4) 0 G1 (by omega) (by rw [rg_0]; exact hN)
    · exact absurd c16 (by omega)
  | succ i ih =>
    intro t G1 hi hN
    have o5t := o5 t (by omega)
    refine x_iload_n dX12_comeAndGo_9 0 rfl ?_
    refine x_aload_n dX12_comeAndGo_10 2 rfl ?_
    refine x_get (v := .ref (y + 1)) dX12_comeAndGo_11 fX12_9 (hN.1) rfl ?_
    refine x_iconst dX12_comeAndGo_14 ki_4 ?_
    refine x_ialdN (n := 9) (f := scal hl (rg (c1V hl (r 0)) r t) sc) dX12_comeAndGo_15 (hN.c1) (by decide) (by decide) ?_
    refine x_topi (y := nI (hl 0 4)) rfl ?_
    refine x_icmpN_ge (tgt := 60) dX12_comeAndGo_16 (by decide) (by omega) (by omega) (fun c16 => ?_) (fun c16 => ?_)
    · exact absurd c16 (by omega)
    · refine x_aload_n dX12_comeAndGo_19 2 rfl ?_
      refine x_get (v := .ref (y + 13)) dX12_comeAndGo_20 fX12_46 (hN.1) rfl ?_
      refine x_iload_n dX12_comeAndGo_23 0 rfl ?_
      refine x_pc (pc' := 24) rfl ?_
      refine x_aload_n dX12_comeAndGo_24 2 rfl ?_
      refine x_get (v := .ref (y + 13)) dX12_comeAndGo_25 fX12_46 (hN.1) rfl ?_
      refine x_iload_n dX12_comeAndGo_28 0 rfl ?_
      refine x_ialdN (n := 7) (f := blk (rg (c1V hl (r 0)) r t) 21 7) dX12_comeAndGo_29 (hN.c13) (by omega) (by decide) ?_
      refine x_topi (y := (rg (c1V hl (r 0)) r t) (21 + t)) (blk_at (by omega)) ?_
      refine x_topi (y := r (21 + t)) (rg_at _ _ _) ?_
      refine x_if_ne (tgt := 47) dX12_comeAndGo_30 (by decide) (fun c30 => ?_) (fun c30 => ?_)
      · refine x_aload_n dX12_comeAndGo_47 2 rfl ?_
        refine x_get (v := .ref (y + 13)) dX12_comeAndGo_48 fX12_46 (hN.1) rfl ?_
        refine x_iload_n dX12_comeAndGo_51 0 rfl ?_
        refine x_ialdN (n := 7) (f := blk (rg (c1V hl (r 0)) r t) 21 7) dX12_comeAndGo_52 (hN.c13) (by omega) (by decide) ?_
        refine x_topi (y := (rg (c1V hl (r 0)) r t) (21 + t)) (blk_at (by omega)) ?_
        refine x_topi (y := r (21 + t)) (rg_at _ _ _) ?_
        refine x_iastN (n := 7) (f := blk (rg (c1V hl (r 0)) r t) 21 7) dX12_comeAndGo_53 (hN.c13) (by omega) (by decide) ?_
        have hM1 := hN.s13 t (r (21 + t)) (by omega)
        refine x_pc (pc' := 54) rfl ?_
        refine x_iinc (v := nI (t + 1)) (ls' := [(2, .int (nI (t + 1))), (1, .int (r 0)), (0, .ref y)]) dX12_comeAndGo_54 0 rfl (nIs _) (by decide) rfl ?_
        refine x_goto (tgt := 9) dX12_comeAndGo_57 (by decide) ?_
        exact ih (t + 1) _ (by omega) (by rw [← rg_s' (f := c1V hl (r 0)) (c1_f (fun e => c30 e.1))]; exact hM1)
      · refine x_aload_n dX12_comeAndGo_33 2 rfl ?_
        refine x_get (v := .ref (y + 10)) dX12_comeAndGo_34 fX12_37 (hN.1) rfl ?_
        refine x_iload_n dX12_comeAndGo_37 0 rfl ?_
        refine x_ialdN (n := 7) (f := nF (hl 5)) dX12_comeAndGo_38 (hN.c10) (by omega) (by decide) ?_
        refine x_iload_n dX12_comeAndGo_39 1 rfl ?_
        refine x_pc (pc' := 40) rfl ?_
        refine x_icmp_ne (x := nI (hl 5 t)) (y := r 0) (tgt := 47) dX12_comeAndGo_40 (by decide) (fun c40 => ?_) (fun c40 => ?_)
        · refine x_aload_n dX12_comeAndGo_47 2 rfl ?_
          refine x_get (v := .ref (y + 13)) dX12_comeAndGo_48 fX12_46 (hN.1) rfl ?_
          refine x_iload_n dX12_comeAndGo_51 0 rfl ?_
          refine x_ialdN (n := 7) (f := blk (rg (c1V hl (r 0)) r t) 21 7) dX12_comeAndGo_52 (hN.c13) (by omega) (by decide) ?_
          refine x_topi (y := (rg (c1V hl (r 0)) r t) (21 + t)) (blk_at (by omega)) ?_
          refine x_topi (y := r (21 + t)) (rg_at _ _ _) ?_
          refine x_iastN (n := 7) (f := blk (rg (c1V hl (r 0)) r t) 21 7) dX12_comeAndGo_53 (hN.c13) (by omega) (by decide) ?_
          have hM2 := hN.s13 t (r (21 + t)) (by omega)
          refine x_iinc (v := nI (t + 1)) (ls' := [(2, .int (nI (t + 1))), (1, .int (r 0)), (0, .ref y)]) dX12_comeAndGo_54 0 rfl (nIs _) (by decide) rfl ?_
          refine x_goto (tgt := 9) dX12_comeAndGo_57 (by decide) ?_
          exact ih (t + 1) _ (by omega) (by rw [← rg_s' (f := c1V hl (r 0)) (c1_f (fun e => c40 e.2))]; exact hM2)
        · refine x_iconst dX12_comeAndGo_43 ki_1 ?_
          refine x_goto (tgt := 53) dX12_comeAndGo_44 (by decide) ?_
          refine x_iastN (n := 7) (f := blk (rg (c1V hl (r 0)) r t) 21 7) dX12_comeAndGo_53 (hN.c13) (by omega) (by decide) ?_
          have hM3 := hN.s13 t (nI 1) (by omega)
          refine x_iinc (v := nI (t + 1)) (ls' := [(2, .int (nI (t + 1))), (1, .int (r 0)), (0, .ref y)]) dX12_comeAndGo_54 0 rfl (nIs _) (by decide) rfl ?_
          refine x_goto (tgt := 9) dX12_comeAndGo_57 (by decide) ?_
          exact ih (t + 1) _ (by omega) (by rw [← rg_s' (f := c1V hl (r 0)) (c1_t c30 c40)]; exact hM3)
theorem Md_comeAndGo {K : xG} {h y : Nat} {G0 G : xHp} {hl : xHl} {r : xRw} {sc : Nat × Nat × Int32} {A : Nat → Nat → Int32} {F : Nat → Int32} {wa sa : Nat → Int64} (hM : MW G0 G y hl r sc A F wa sa) (hO : HallOk hl) : xCall K mX12_comeAndGo 0 0 0 [.ref y] h G (mdQ G0 h y none hl (comeGo hl r (hl 0 4)) sc A F wa sa) := by
  refine x_entry (by decide) (ls := [(0, .ref y)]) rfl (Nat.le_of_ble_eq_true rfl) ?_
  refine x_aload_n dX12_comeAndGo_0 0 rfl ?_
  refine x_get (v := .ref (y + 1)) dX12_comeAndGo_1 fX12_9 (hM.1) rfl ?_
  refine x_iconst dX12_comeAndGo_4 ki_5 ?_
  refine x_ialdN (n := 9) (f := scal hl r sc) dX12_comeAndGo_5 (hM.c1) (by decide) (by decide) ?_
  refine x_topi (y := r 0) rfl ?_
  refine x_istore_n (ls' := [(1, .int (r 0)), (0, .ref y)]) dX12_comeAndGo_6 (by decide) rfl ?_
  refine x_iconst dX12_comeAndGo_7 ki_0 ?_
  refine x_istore_n (ls' := [(2, .int (nI 0)), (1, .int (r 0)), (0, .ref y)]) dX12_comeAndGo_8 (by decide) rfl ?_
  exact Md_cg1 hO (hl 0 4) 0 G (by omega) (by rw [rg_0]; exact hM)
theorem Md_takeAll_loop {K : xG} {h y : Nat} {G0 : xHp} {hl : xHl} {r : xRw} {sc : Nat × Nat × Int32} {A : Nat → Nat → Int32} {F : Nat → Int32} {rv : Option (List Nat)} (hO : HallOk hl) (hV : RvR A sc rv) (hrow : RowOk hl r) (hno : nI (hl 0 0) ≤ r 0 → ∀ t, t < hl 0 4 → ¬ r (21 + t) = 1) : ∀ (i q : Nat) (w1 k1 : Nat → Int64) (G1 : xHp), q + i = hl 0 3 → MW G0 G1 y hl (takeF hl rv r q) sc A F w1 k1 → xV K mX12_takeAll 6 0 0 h G1 2 [(1, .int (nI q)), (0, .ref y)] [] (mdX G0 h y none hl (takeF hl rv r (hl 0 3)) sc A F) := by
  obtain ⟨o2, o3, o4, o5, o6, o7, o8, o9⟩ := id hO
  intro i
  induction i with
  | zero =>
    intro q w1 k1 G1 hi hN
    have hi0 : q = hl 0 3 := by omega
    subst hi0
    refine x_iload_n dX12_takeAll_2 0 rfl ?_
    refine x_aload_n dX12_takeAll_3 1 rfl ?_
    refine x_get (v := .ref (y + 1)) dX12_takeAll_4 fX12_9 (hN.1) rfl ?_
    refine x_iconst dX12_takeAll_7 ki_3 ?_
    refine x_ialdN (n := 9) (f := scal hl (takeF hl rv r (hl 0 3)) sc) dX12_takeAll_8 (hN.c1) (by decide) (by decide) ?_
    refine x_topi (y := nI (hl 0 3)) rfl ?_
    refine x_icmpN_ge (tgt := 73) dX12_takeAll_9 (by decide) (by omega) (by omega) (fun c9 => ?_) (fun c9 => ?_)
    · exact x_vret dX12_takeAll_73 rfl (xEx_i ((w1, k1), G1) hN rfl rfl rfl)
    · exact absurd c9 (by omega)
  | succ i ih =>
    intro q w1 k1 G1 hi hN
    refine x_iload_n dX12_takeAll_2 0 rfl ?_
    refine x_aload_n dX12_takeAll_3 1 rfl ?_
    refine x_get (v := .ref (y + 1)) dX12_takeAll_4 fX12_9 (hN.1) rfl ?_
    refine x_iconst dX12_takeAll_7 ki_3 ?_
    refine x_ialdN (n := 9) (f := scal hl (takeF hl rv r q) sc) dX12_takeAll_8 (hN.c1) (by decide) (by decide) ?_
    refine x_topi (y := nI (hl 0 3)) rfl ?_
    refine x_icmpN_ge (tgt := 73) dX12_takeAll_9 (by decide) (by omega) (by omega) (fun c9 => ?_) (fun c9 => ?_)
    · exact absurd c9 (by omega)
    · refine x_aload_n dX12_takeAll_12 1 rfl ?_
      refine x_get (v := .ref (y + 1)) dX12_takeAll_13 fX12_9 (hN.1) rfl ?_
      refine x_iconst dX12_takeAll_16 ki_5 ?_
      refine x_pc (pc' := 17) rfl ?_
      refine x_ialdN (n := 9) (f := scal hl (takeF hl rv r q) sc) dX12_takeAll_17 (hN.c1) (by decide) (by decide) ?_
      refine x_topi (y := (takeF hl rv r q) 0) rfl ?_
      refine x_aload_n dX12_takeAll_18 1 rfl ?_
      refine x_get (v := .ref (y + 1)) dX12_takeAll_19 fX12_9 (hN.1) rfl ?_
      refine x_iconst dX12_takeAll_22 ki_0 ?_
      refine x_ialdN (n := 9) (f := scal hl (takeF hl rv r q) sc) dX12_takeAll_23 (hN.c1) (by decide) (by decide) ?_
      refine x_topi (y := nI (hl 0 0)) rfl ?_
      refine x_icmp_ge (x := (takeF hl rv r q) 0) (y := nI (hl 0 0)) (tgt := 73) dX12_takeAll_24 (by decide) (fun c24 => ?_) (fun c24 => ?_)
      · have hz := hno (by rw [← takeF_0 (hl := hl) (rv := rv) (r := r) q]; exact c24)
        have e1 := take_no (rv := rv) hz q
        have e2 := take_no (rv := rv) hz (hl 0 3)
        exact x_vret dX12_takeAll_73 rfl (xEx_i ((w1, k1), G1) (by rw [e2]; rw [e1] at hN; exact hN) rfl rfl rfl)
      · refine x_aload_n dX12_takeAll_27 1 rfl ?_
        refine x_get (v := .ref (y + 5)) dX12_takeAll_28 fX12_22 (hN.1) rfl ?_
        refine x_iload_n dX12_takeAll_31 0 rfl ?_
        refine x_ialdN (n := 4) (f := blk (takeF hl rv r q) 5 4) dX12_takeAll_32 (hN.c5) (by omega) (by decide) ?_
        refine x_topi (y := (takeF hl rv r q) (5 + q)) (blk_at (by omega)) ?_
        refine x_pc (pc' := 33) rfl ?_
        refine x_iconst dX12_takeAll_33 ki_m1 ?_
        refine x_icmp_ne (x := (takeF hl rv r q) (5 + q)) (y := (-1)) (tgt := 54) dX12_takeAll_34 (by decide) (fun c34 => ?_) (fun c34 => ?_)
        · refine x_iconst dX12_takeAll_54 ki_m1 ?_
          refine x_istore_n (ls' := [(2, .int (-1)), (1, .int (nI q)), (0, .ref y)]) dX12_takeAll_55 (by decide) rfl ?_
          refine x_iload_n dX12_takeAll_56 0 rfl ?_
          refine x_iconst dX12_takeAll_57 ki_m1 ?_
          refine x_icmp_eq (x := (-1)) (y := (-1)) (tgt := 67) dX12_takeAll_58 (by decide) (fun c58 => ?_) (fun c58 => ?_)
          · refine x_iinc (v := nI (q + 1)) (ls' := [(1, .int (nI (q + 1))), (2, .int (-1)), (0, .ref y)]) dX12_takeAll_67 1 rfl (nIs _) (by decide) rfl ?_
            refine x_goto (tgt := 2) dX12_takeAll_70 (by decide) ?_
            refine x_perm (ls' := [(1, .int (nI (q + 1))), (0, .ref y)]) [0, 2] rfl ?_
            exact ih (q + 1) _ _ _ (by omega) (by rw [show takeF hl rv r (q + 1) = _ from takeS_n (Or.inr (fun e => c34 e.1))]; exact hN)
          · exact absurd rfl c58
        · refine x_aload_n dX12_takeAll_37 1 rfl ?_
          refine x_get (v := .ref (y + 7)) dX12_takeAll_38 fX12_28 (hN.1) rfl ?_
          refine x_iload_n dX12_takeAll_41 0 rfl ?_
          refine x_ialdN (n := 4) (f := blk (takeF hl rv r q) 13 4) dX12_takeAll_42 (hN.c7) (by omega) (by decide) ?_
          refine x_topi (y := (takeF hl rv r q) (13 + q)) (blk_at (by omega)) ?_
          refine x_if_ne (tgt := 54) dX12_takeAll_43 (by decide) (fun c43 => ?_) (fun c43 => ?_)
          · refine x_iconst dX12_takeAll_54 ki_m1 ?_
            refine x_istore_n (ls' := [(2, .int (-1)), (1, .int (nI q)), (0, .ref y)]) dX12_takeAll_55 (by decide) rfl ?_
            refine x_iload_n dX12_takeAll_56 0 rfl ?_
            refine x_pc (pc' := 57) rfl ?_
            refine x_iconst dX12_takeAll_57 ki_m1 ?_
            refine x_icmp_eq (x := (-1)) (y := (-1)) (tgt := 67) dX12_takeAll_58 (by decide) (fun c58 => ?_) (fun c58 => ?_)
            · refine x_iinc (v := nI (q + 1)) (ls' := [(1, .int (nI (q + 1))), (2, .int (-1)), (0, .ref y)]) dX12_takeAll_67 1 rfl (nIs _) (by decide) rfl ?_
              refine x_goto (tgt := 2) dX12_takeAll_70 (by decide) ?_
              refine x_perm (ls' := [(1, .int (nI (q + 1))), (0, .ref y)]) [0, 2] rfl ?_
              exact ih (q + 1) _ _ _ (by omega) (by rw [show takeF hl rv r (q + 1) = _ from takeS_n (Or.inr (fun e => c43 e.2))]; exact hN)
            · exact absurd rfl c58
          · refine x_aload_n dX12_takeAll_46 1 rfl ?_
            refine x_iload_n dX12_takeAll_47 0 rfl ?_
            refine x_cVe (N := mX12_choiceOf) (d' := 5) (mc := 0) (ms := 0) (cb := 0) (sb := 0) (As := [.int (nI q)]) (st := []) dX12_takeAll_48 mX12_choiceOf_v lX12_392 rfl rfl (hN.1) rfl (by decide) (Nat.le_of_ble_eq_true rfl) (Md_choiceOf hN hO (by omega) (by omega) hV) rfl (sf := fun e2 => [.int (chI (choice hl rv (takeF hl rv r q) q))]) (fun _ => rfl) (fun e2 hq2 => ?_)
            obtain ⟨⟨w2, k2⟩, G2⟩ := e2
            have hN2 : MW G0 G2 y hl (takeF hl rv r q) sc A F w2 k2 := hq2
            refine x_pc (pc' := 51) rfl ?_
            refine x_goto (tgt := 55) dX12_takeAll_51 (by decide) ?_
            refine x_istore_n (ls' := [(2, .int (chI (choice hl rv (takeF hl rv r q) q))), (1, .int (nI q)), (0, .ref y)]) dX12_takeAll_55 (by decide) rfl ?_
            rcases hch : choice hl rv (takeF hl rv r q) q with _ | t
            · refine x_leq (ls' := [(2, .int (-1)), (1, .int (nI q)), (0, .ref y)]) rfl ?_
              refine x_iload_n dX12_takeAll_56 0 rfl ?_
              refine x_iconst dX12_takeAll_57 ki_m1 ?_
              refine x_icmp_eq (x := (-1)) (y := (-1)) (tgt := 67) dX12_takeAll_58 (by decide) (fun c58 => ?_) (fun c58 => ?_)
              · refine x_iinc (v := nI (q + 1)) (ls' := [(1, .int (nI (q + 1))), (2, .int (-1)), (0, .ref y)]) dX12_takeAll_67 1 rfl (nIs _) (by decide) rfl ?_
                refine x_goto (tgt := 2) dX12_takeAll_70 (by decide) ?_
                refine x_perm (ls' := [(1, .int (nI (q + 1))), (0, .ref y)]) [0, 2] rfl ?_
                exact ih (q + 1) _ _ _ (by omega) (by rw [show takeF hl rv r (q + 1) = _ from takeS_n (Or.inl hch)]; exact hN2)
              · exact absurd rfl c58
            · refine x_leq (ls' := [(2, .int (nI t)), (1, .int (nI q)), (0, .ref y)]) rfl ?_
              obtain ⟨ht, hct⟩ := choice_some hch
              have o5t := o5 t ht
              obtain ⟨-, hk2, -⟩ := of_decide_eq_true hct
              refine x_iload_n dX12_takeAll_56 0 rfl ?_
              refine x_iconst dX12_takeAll_57 ki_m1 ?_
              refine x_icmp_eq (x := nI t) (y := (-1)) (tgt := 67) dX12_takeAll_58 (by decide) (fun c58 => ?_) (fun c58 => ?_)
              · exact absurd c58 (nI_ne1 (by omega))
              · refine x_aload_n dX12_takeAll_61 2 rfl ?_
                refine x_iload_n dX12_takeAll_62 1 rfl ?_
                refine x_iload_n dX12_takeAll_63 0 rfl ?_
                refine x_cVe (N := mX12_takesIt) (d' := 1) (mc := 0) (ms := 0) (cb := 0) (sb := 0) (As := [.int (nI q), .int (nI t)]) (st := []) dX12_takeAll_64 mX12_takesIt_v lX12_395 rfl rfl (hN2.1) rfl (by decide) (Nat.le_of_ble_eq_true rfl) (Md_takesIt hN2 (by omega) (by omega) (by omega) hk2 (by have := hO.2.2.2.2.1 (q * 4 + hl 4 t) (by have := hO.1; have := hO.2.2.2.1 t (by omega); omega); omega)) rfl (sf := fun G3 => []) (fun _ => rfl) (fun G3 hN3 => ?_)
                refine x_iinc (v := nI (q + 1)) (ls' := [(1, .int (nI (q + 1))), (2, .int (nI t)), (0, .ref y)]) dX12_takeAll_67 1 rfl (nIs _) (by decide) rfl ?_
                refine x_pc (pc' := 70) rfl ?_
                refine x_goto (tgt := 2) dX12_takeAll_70 (by decide) ?_
                refine x_perm (ls' := [(1, .int (nI (q + 1))), (0, .ref y)]) [0, 2] rfl ?_
                exact ih (q + 1) _ _ _ (by omega) (by rw [show takeF hl rv r (q + 1) = _ from takeS_y hch ⟨c34, c43⟩]; exact hN3)
theorem Md_takeAll {K : xG} {h y : Nat} {G0 G : xHp} {hl : xHl} {r : xRw} {sc : Nat × Nat × Int32} {A : Nat → Nat → Int32} {F : Nat → Int32} {wa sa : Nat → Int64} {rv : Option (List Nat)} (hM : MW G0 G y hl r sc A F wa sa) (hO : HallOk hl) (hV : RvR A sc rv) (hrow : RowOk hl r) (hno : nI (hl 0 0) ≤ r 0 → ∀ t, t < hl 0 4 → ¬ r (21 + t) = 1) : xCall K mX12_takeAll 6 0 0 [.ref y] h G (mdX G0 h y none hl (takeF hl rv r (hl 0 3)) sc A F) := by
  refine x_entry (by decide) (ls := [(0, .ref y)]) rfl (Nat.le_of_ble_eq_true rfl) ?_
  refine x_iconst dX12_takeAll_0 ki_0 ?_
  refine x_istore_n (ls' := [(1, .int (nI 0)), (0, .ref y)]) dX12_takeAll_1 (by decide) rfl ?_
  exact Md_takeAll_loop hO hV hrow hno (hl 0 3) 0 wa sa G (by omega) hM
theorem Md_goes_loop {K : xG} {h y : Nat} {G0 : xHp} {hl : xHl} {r : xRw} {sc : Nat × Nat × Int32} {A : Nat → Nat → Int32} {F : Nat → Int32} {R : xRw} {w1 k1 : Nat → Int64} (hO : HallOk hl) (hrow : RowOk hl R) : ∀ (i q : Nat) (G1 : xHp), q + i = hl 0 3 → MW G0 G1 y hl (fsF hl R q).1 sc A F w1 k1 → xV K mX12_goes 7 0 0 h G1 12 [(2, .int (nI q)), (1, .int ((fsF hl R q).2)), (0, .ref y)] [] (mdX G0 h y (some (.int (fsF hl R (hl 0 3)).2)) hl (upd (fsF hl R (hl 0 3)).1 0 ((fsF hl R (hl 0 3)).1 0 + nI 1)) sc A F) := by
  obtain ⟨o2, o3, o4, o5, o6, o7, o8, o9⟩ := id hO
  intro i
  induction i with
  | zero =>
    intro q G1 hi hN
    have hi0 : q = hl 0 3 := by omega
    subst hi0
    refine x_iload_n dX12_goes_12 0 rfl ?_
    refine x_aload_n dX12_goes_13 2 rfl ?_
    refine x_get (v := .ref (y + 1)) dX12_goes_14 fX12_9 (hN.1) rfl ?_
    refine x_iconst dX12_goes_17 ki_3 ?_
    refine x_ialdN (n := 9) (f := scal hl ((fsF hl R (hl 0 3)).1) sc) dX12_goes_18 (hN.c1) (by decide) (by decide) ?_
    refine x_topi (y := nI (hl 0 3)) rfl ?_
    refine x_icmpN_ge (tgt := 159) dX12_goes_19 (by decide) (by omega) (by omega) (fun c19 => ?_) (fun c19 => ?_)
    · refine x_aload_n dX12_goes_159 2 rfl ?_
      refine x_get (v := .ref (y + 1)) dX12_goes_160 fX12_9 (hN.1) rfl ?_
      refine x_iconst dX12_goes_163 ki_5 ?_
      refine x_pc (pc' := 164) rfl ?_
      refine x_dup2 dX12_goes_164 rfl rfl ?_
      refine x_ialdN (n := 9) (f := scal hl ((fsF hl R (hl 0 3)).1) sc) dX12_goes_165 (hN.c1) (by decide) (by decide) ?_
      refine x_topi (y := (fsF hl R (hl 0 3)).1 0) rfl ?_
      refine x_iconst dX12_goes_166 ki_1 ?_
      refine x_iadd dX12_goes_167 ?_
      refine x_iastN (n := 9) (f := scal hl ((fsF hl R (hl 0 3)).1) sc) dX12_goes_168 (hN.c1) (by decide) (by decide) ?_
      have hM1 := hN.s1m (((fsF hl R (hl 0 3)).1 0) + (nI 1))
      refine x_iload_n dX12_goes_169 1 rfl ?_
      exact x_iret dX12_goes_170 rfl (xEx_i ((w1, k1), _) hM1 rfl rfl rfl)
    · exact absurd c19 (by omega)
  | succ i ih =>
    intro q G1 hi hN
    have f5 := fs_5 (hl := hl) (r := R) (q := q) (by omega)
    have f9 := fs_9 (hl := hl) (r := R) (q := q) (by omega)
    refine x_iload_n dX12_goes_12 0 rfl ?_
    refine x_aload_n dX12_goes_13 2 rfl ?_
    refine x_get (v := .ref (y + 1)) dX12_goes_14 fX12_9 (hN.1) rfl ?_
    refine x_iconst dX12_goes_17 ki_3 ?_
    refine x_ialdN (n := 9) (f := scal hl ((fsF hl R q).1) sc) dX12_goes_18 (hN.c1) (by decide) (by decide) ?_
    refine x_topi (y := nI (hl 0 3)) rfl ?_
    refine x_icmpN_ge (tgt := 159) dX12_goes_19 (by decide) (by omega) (by omega) (fun c19 => ?_) (fun c19 => ?_)
    · exact absurd c19 (by omega)
    · rcases hrow.2.1 q (by omega) with hm | ⟨t, ht, hm, -, g, hg1, hg2, hg⟩
      · rw [hm] at f5
        refine x_aload_n dX12_goes_22 2 rfl ?_
        refine x_get (v := .ref (y + 5)) dX12_goes_23 fX12_22 (hN.1) rfl ?_
        refine x_iload_n dX12_goes_26 0 rfl ?_
        refine x_pc (pc' := 27) rfl ?_
        refine x_ialdN (n := 4) (f := blk ((fsF hl R q).1) 5 4) dX12_goes_27 (hN.c5) (by omega) (by decide) ?_
        refine x_topi (y := ((fsF hl R q).1) (5 + q)) (blk_at (by omega)) ?_
        refine x_topi (y := -1) f5 ?_
        refine x_iconst dX12_goes_28 ki_m1 ?_
        refine x_icmp_ne (x := (-1)) (y := (-1)) (tgt := 64) dX12_goes_29 (by decide) (fun c29 => ?_) (fun c29 => ?_)
        · exact absurd rfl c29
        · refine x_aload_n dX12_goes_32 2 rfl ?_
          refine x_get (v := .ref (y + 8)) dX12_goes_33 fX12_31 (hN.1) rfl ?_
          refine x_iload_n dX12_goes_36 0 rfl ?_
          refine x_dup2 dX12_goes_37 rfl rfl ?_
          refine x_ialdN (n := 4) (f := blk ((fsF hl R q).1) 17 4) dX12_goes_38 (hN.c8) (by omega) (by decide) ?_
          refine x_topi (y := ((fsF hl R q).1) (17 + q)) (blk_at (by omega)) ?_
          refine x_aload_n dX12_goes_39 2 rfl ?_
          refine x_get (v := .ref (y + 1)) dX12_goes_40 fX12_9 (hN.1) rfl ?_
          refine x_pc (pc' := 43) rfl ?_
          refine x_iconst dX12_goes_43 ki_5 ?_
          refine x_ialdN (n := 9) (f := scal hl ((fsF hl R q).1) sc) dX12_goes_44 (hN.c1) (by decide) (by decide) ?_
          refine x_topi (y := (fsF hl R q).1 0) rfl ?_
          refine x_aload_n dX12_goes_45 2 rfl ?_
          refine x_get (v := .ref (y + 1)) dX12_goes_46 fX12_9 (hN.1) rfl ?_
          refine x_iconst dX12_goes_49 ki_0 ?_
          refine x_ialdN (n := 9) (f := scal hl ((fsF hl R q).1) sc) dX12_goes_50 (hN.c1) (by decide) (by decide) ?_
          refine x_topi (y := nI (hl 0 0)) rfl ?_
          refine x_icmp_ge (x := (fsF hl R q).1 0) (y := nI (hl 0 0)) (tgt := 58) dX12_goes_51 (by decide) (fun c51 => ?_) (fun c51 => ?_)
          · refine x_iconst dX12_goes_58 ki_0 ?_
            refine x_iadd dX12_goes_59 ?_
            refine x_iastN (n := 4) (f := blk ((fsF hl R q).1) 17 4) dX12_goes_60 (hN.c8) (by omega) (by decide) ?_
            have hM2 := hN.s8 q ((((fsF hl R q).1) (17 + q)) + (nI 0)) (by omega)
            refine x_pc (pc' := 61) rfl ?_
            refine x_goto (tgt := 130) dX12_goes_61 (by decide) ?_
            have hws : workS hl (fsF hl R q).1 q = _ := workS_i0 f5 (Int32.not_lt.mpr c51)
            have hwm : workM (fsF hl R q).1 q (fsF hl R q).2 = _ := workM_a f5
            have hNw := hM2
            rw [← hws] at hNw
            refine x_aload_n dX12_goes_130 2 rfl ?_
            refine x_get (v := .ref (y + 7)) dX12_goes_131 fX12_28 (hNw.1) rfl ?_
            refine x_iload_n dX12_goes_134 0 rfl ?_
            refine x_dup2 dX12_goes_135 rfl rfl ?_
            refine x_ialdN (n := 4) (f := blk (workS hl (fsF hl R q).1 q) 13 4) dX12_goes_136 (hNw.c7) (by omega) (by decide) ?_
            refine x_topi (y := (workS hl (fsF hl R q).1 q) (13 + q)) (blk_at (by omega)) ?_
            refine x_aload_n dX12_goes_137 2 rfl ?_
            refine x_get (v := .ref (y + 7)) dX12_goes_138 fX12_28 (hNw.1) rfl ?_
            refine x_iload_n dX12_goes_141 0 rfl ?_
            refine x_ialdN (n := 4) (f := blk (workS hl (fsF hl R q).1 q) 13 4) dX12_goes_142 (hNw.c7) (by omega) (by decide) ?_
            refine x_topi (y := (workS hl (fsF hl R q).1 q) (13 + q)) (blk_at (by omega)) ?_
            refine x_pc (pc' := 143) rfl ?_
            refine x_if_le (tgt := 150) dX12_goes_143 (by decide) (fun c143 => ?_) (fun c143 => ?_)
            · refine x_iconst dX12_goes_150 ki_0 ?_
              refine x_isub dX12_goes_151 ?_
              refine x_iastN (n := 4) (f := blk (workS hl (fsF hl R q).1 q) 13 4) dX12_goes_152 (hNw.c7) (by omega) (by decide) ?_
              have hM3 := hNw.s7 q (((workS hl (fsF hl R q).1 q) (13 + q)) - (nI 0)) (by omega)
              refine x_iinc (v := nI (q + 1)) (ls' := [(2, .int (nI (q + 1))), (1, .int ((fsF hl R q).2)), (0, .ref y)]) dX12_goes_153 0 rfl (nIs _) (by decide) rfl ?_
              refine x_goto (tgt := 12) dX12_goes_156 (by decide) ?_
              refine x_leq (ls' := [(2, .int (nI (q + 1))), (1, .int (fsF hl R (q + 1)).2), (0, .ref y)]) (by rw [show (fsF hl R (q + 1)).2 = _ from hwm]) ?_
              exact ih (q + 1) _ (by omega) (by rw [show (fsF hl R (q + 1)).1 = _ from cofS_z (Int32.not_lt.mpr c143)]; exact hM3)
            · refine x_iconst dX12_goes_146 ki_1 ?_
              refine x_goto (tgt := 151) dX12_goes_147 (by decide) ?_
              refine x_isub dX12_goes_151 ?_
              refine x_iastN (n := 4) (f := blk (workS hl (fsF hl R q).1 q) 13 4) dX12_goes_152 (hNw.c7) (by omega) (by decide) ?_
              have hM4 := hNw.s7 q (((workS hl (fsF hl R q).1 q) (13 + q)) - (nI 1)) (by omega)
              refine x_iinc (v := nI (q + 1)) (ls' := [(2, .int (nI (q + 1))), (1, .int ((fsF hl R q).2)), (0, .ref y)]) dX12_goes_153 0 rfl (nIs _) (by decide) rfl ?_
              refine x_goto (tgt := 12) dX12_goes_156 (by decide) ?_
              refine x_leq (ls' := [(2, .int (nI (q + 1))), (1, .int (fsF hl R (q + 1)).2), (0, .ref y)]) (by rw [show (fsF hl R (q + 1)).2 = _ from hwm]) ?_
              exact ih (q + 1) _ (by omega) (by rw [show (fsF hl R (q + 1)).1 = _ from cofS_p (Int32.not_le.mp c143)]; exact hM4)
          · refine x_iconst dX12_goes_54 ki_1 ?_
            refine x_goto (tgt := 59) dX12_goes_55 (by decide) ?_
            refine x_iadd dX12_goes_59 ?_
            refine x_pc (pc' := 60) rfl ?_
            refine x_iastN (n := 4) (f := blk ((fsF hl R q).1) 17 4) dX12_goes_60 (hN.c8) (by omega) (by decide) ?_
            have hM5 := hN.s8 q ((((fsF hl R q).1) (17 + q)) + (nI 1)) (by omega)
            refine x_goto (tgt := 130) dX12_goes_61 (by decide) ?_
            have hws : workS hl (fsF hl R q).1 q = _ := workS_a f5 (Int32.not_le.mp c51)
            have hwm : workM (fsF hl R q).1 q (fsF hl R q).2 = _ := workM_a f5
            have hNw := hM5
            rw [← hws] at hNw
            refine x_aload_n dX12_goes_130 2 rfl ?_
            refine x_get (v := .ref (y + 7)) dX12_goes_131 fX12_28 (hNw.1) rfl ?_
            refine x_iload_n dX12_goes_134 0 rfl ?_
            refine x_dup2 dX12_goes_135 rfl rfl ?_
            refine x_ialdN (n := 4) (f := blk (workS hl (fsF hl R q).1 q) 13 4) dX12_goes_136 (hNw.c7) (by omega) (by decide) ?_
            refine x_topi (y := (workS hl (fsF hl R q).1 q) (13 + q)) (blk_at (by omega)) ?_
            refine x_aload_n dX12_goes_137 2 rfl ?_
            refine x_get (v := .ref (y + 7)) dX12_goes_138 fX12_28 (hNw.1) rfl ?_
            refine x_iload_n dX12_goes_141 0 rfl ?_
            refine x_pc (pc' := 142) rfl ?_
            refine x_ialdN (n := 4) (f := blk (workS hl (fsF hl R q).1 q) 13 4) dX12_goes_142 (hNw.c7) (by omega) (by decide) ?_
            refine x_topi (y := (workS hl (fsF hl R q).1 q) (13 + q)) (blk_at (by omega)) ?_
            refine x_if_le (tgt := 150) dX12_goes_143 (by decide) (fun c143 => ?_) (fun c143 => ?_)
            · refine x_iconst dX12_goes_150 ki_0 ?_
              refine x_isub dX12_goes_151 ?_
              refine x_iastN (n := 4) (f := blk (workS hl (fsF hl R q).1 q) 13 4) dX12_goes_152 (hNw.c7) (by omega) (by decide) ?_
              have hM6 := hNw.s7 q (((workS hl (fsF hl R q).1 q) (13 + q)) - (nI 0)) (by omega)
              refine x_iinc (v := nI (q + 1)) (ls' := [(2, .int (nI (q + 1))), (1, .int ((fsF hl R q).2)), (0, .ref y)]) dX12_goes_153 0 rfl (nIs _) (by decide) rfl ?_
              refine x_goto (tgt := 12) dX12_goes_156 (by decide) ?_
              refine x_leq (ls' := [(2, .int (nI (q + 1))), (1, .int (fsF hl R (q + 1)).2), (0, .ref y)]) (by rw [show (fsF hl R (q + 1)).2 = _ from hwm]) ?_
              exact ih (q + 1) _ (by omega) (by rw [show (fsF hl R (q + 1)).1 = _ from cofS_z (Int32.not_lt.mpr c143)]; exact hM6)
            · refine x_iconst dX12_goes_146 ki_1 ?_
              refine x_goto (tgt := 151) dX12_goes_147 (by decide) ?_
              refine x_isub dX12_goes_151 ?_
              refine x_iastN (n := 4) (f := blk (workS hl (fsF hl R q).1 q) 13 4) dX12_goes_152 (hNw.c7) (by omega) (by decide) ?_
              have hM7 := hNw.s7 q (((workS hl (fsF hl R q).1 q) (13 + q)) - (nI 1)) (by omega)
              refine x_iinc (v := nI (q + 1)) (ls' := [(2, .int (nI (q + 1))), (1, .int ((fsF hl R q).2)), (0, .ref y)]) dX12_goes_153 0 rfl (nIs _) (by decide) rfl ?_
              refine x_goto (tgt := 12) dX12_goes_156 (by decide) ?_
              refine x_leq (ls' := [(2, .int (nI (q + 1))), (1, .int (fsF hl R (q + 1)).2), (0, .ref y)]) (by rw [show (fsF hl R (q + 1)).2 = _ from hwm]) ?_
              exact ih (q + 1) _ (by omega) (by rw [show (fsF hl R (q + 1)).1 = _ from cofS_p (Int32.not_le.mp c143)]; exact hM7)
      · rw [hm] at f5
        refine x_aload_n dX12_goes_22 2 rfl ?_
        refine x_get (v := .ref (y + 5)) dX12_goes_23 fX12_22 (hN.1) rfl ?_
        refine x_iload_n dX12_goes_26 0 rfl ?_
        refine x_pc (pc' := 27) rfl ?_
        refine x_ialdN (n := 4) (f := blk ((fsF hl R q).1) 5 4) dX12_goes_27 (hN.c5) (by omega) (by decide) ?_
        refine x_topi (y := ((fsF hl R q).1) (5 + q)) (blk_at (by omega)) ?_
        refine x_topi (y := nI t) (by exact f5) ?_
        refine x_iconst dX12_goes_28 ki_m1 ?_
        refine x_icmp_ne (x := nI t) (y := (-1)) (tgt := 64) dX12_goes_29 (by decide) (fun c29 => ?_) (fun c29 => ?_)
        · refine x_aload_n dX12_goes_64 2 rfl ?_
          refine x_get (v := .ref (y + 6)) dX12_goes_65 fX12_25 (hN.1) rfl ?_
          refine x_iload_n dX12_goes_68 0 rfl ?_
          refine x_dup2 dX12_goes_69 rfl rfl ?_
          refine x_ialdN (n := 4) (f := blk ((fsF hl R q).1) 9 4) dX12_goes_70 (hN.c6) (by omega) (by decide) ?_
          refine x_topi (y := ((fsF hl R q).1) (9 + q)) (blk_at (by omega)) ?_
          refine x_iconst dX12_goes_71 ki_1 ?_
          refine x_isub dX12_goes_72 ?_
          refine x_pc (pc' := 73) rfl ?_
          refine x_iastN (n := 4) (f := blk ((fsF hl R q).1) 9 4) dX12_goes_73 (hN.c6) (by omega) (by decide) ?_
          have hM8 := hN.s6 q ((((fsF hl R q).1) (9 + q)) - (nI 1)) (by omega)
          refine x_aload_n dX12_goes_74 2 rfl ?_
          refine x_get (v := .ref (y + 6)) dX12_goes_75 fX12_25 (hM8.1) rfl ?_
          refine x_iload_n dX12_goes_78 0 rfl ?_
          refine x_ialdN (n := 4) (f := blk (upd ((fsF hl R q).1) (9 + q) ((((fsF hl R q).1) (9 + q)) - (nI 1))) 9 4) dX12_goes_79 (hM8.c6) (by omega) (by decide) ?_
          refine x_topi (y := (upd ((fsF hl R q).1) (9 + q) ((((fsF hl R q).1) (9 + q)) - (nI 1))) (9 + q)) (blk_at (by omega)) ?_
          refine x_topi (y := (fsF hl R q).1 (9 + q) - nI 1) upd_at ?_
          refine x_if_ne (tgt := 130) dX12_goes_80 (by decide) (fun c80 => ?_) (fun c80 => ?_)
          · have hws : workS hl (fsF hl R q).1 q = _ := workS_w (by rw [f5]; exact nI_ne1 (by omega)) c80
            have hwm : workM (fsF hl R q).1 q (fsF hl R q).2 = _ := workM_w (by rw [f5]; exact nI_ne1 (by omega)) c80
            have hNw := hM8
            rw [← hws] at hNw
            refine x_aload_n dX12_goes_130 2 rfl ?_
            refine x_get (v := .ref (y + 7)) dX12_goes_131 fX12_28 (hNw.1) rfl ?_
            refine x_iload_n dX12_goes_134 0 rfl ?_
            refine x_dup2 dX12_goes_135 rfl rfl ?_
            refine x_pc (pc' := 136) rfl ?_
            refine x_ialdN (n := 4) (f := blk (workS hl (fsF hl R q).1 q) 13 4) dX12_goes_136 (hNw.c7) (by omega) (by decide) ?_
            refine x_topi (y := (workS hl (fsF hl R q).1 q) (13 + q)) (blk_at (by omega)) ?_
            refine x_aload_n dX12_goes_137 2 rfl ?_
            refine x_get (v := .ref (y + 7)) dX12_goes_138 fX12_28 (hNw.1) rfl ?_
            refine x_iload_n dX12_goes_141 0 rfl ?_
            refine x_ialdN (n := 4) (f := blk (workS hl (fsF hl R q).1 q) 13 4) dX12_goes_142 (hNw.c7) (by omega) (by decide) ?_
            refine x_topi (y := (workS hl (fsF hl R q).1 q) (13 + q)) (blk_at (by omega)) ?_
            refine x_if_le (tgt := 150) dX12_goes_143 (by decide) (fun c143 => ?_) (fun c143 => ?_)
            · refine x_iconst dX12_goes_150 ki_0 ?_
              refine x_isub dX12_goes_151 ?_
              refine x_iastN (n := 4) (f := blk (workS hl (fsF hl R q).1 q) 13 4) dX12_goes_152 (hNw.c7) (by omega) (by decide) ?_
              have hM9 := hNw.s7 q (((workS hl (fsF hl R q).1 q) (13 + q)) - (nI 0)) (by omega)
              refine x_iinc (v := nI (q + 1)) (ls' := [(2, .int (nI (q + 1))), (1, .int ((fsF hl R q).2)), (0, .ref y)]) dX12_goes_153 0 rfl (nIs _) (by decide) rfl ?_
              refine x_pc (pc' := 156) rfl ?_
              refine x_goto (tgt := 12) dX12_goes_156 (by decide) ?_
              refine x_leq (ls' := [(2, .int (nI (q + 1))), (1, .int (fsF hl R (q + 1)).2), (0, .ref y)]) (by rw [show (fsF hl R (q + 1)).2 = _ from hwm]) ?_
              exact ih (q + 1) _ (by omega) (by rw [show (fsF hl R (q + 1)).1 = _ from cofS_z (Int32.not_lt.mpr c143)]; exact hM9)
            · refine x_iconst dX12_goes_146 ki_1 ?_
              refine x_goto (tgt := 151) dX12_goes_147 (by decide) ?_
              refine x_isub dX12_goes_151 ?_
              refine x_iastN (n := 4) (f := blk (workS hl (fsF hl R q).1 q) 13 4) dX12_goes_152 (hNw.c7) (by omega) (by decide) ?_
              have hM10 := hNw.s7 q (((workS hl (fsF hl R q).1 q) (13 + q)) - (nI 1)) (by omega)
              refine x_pc (pc' := 153) rfl ?_
              refine x_iinc (v := nI (q + 1)) (ls' := [(2, .int (nI (q + 1))), (1, .int ((fsF hl R q).2)), (0, .ref y)]) dX12_goes_153 0 rfl (nIs _) (by decide) rfl ?_
              refine x_goto (tgt := 12) dX12_goes_156 (by decide) ?_
              refine x_leq (ls' := [(2, .int (nI (q + 1))), (1, .int (fsF hl R (q + 1)).2), (0, .ref y)]) (by rw [show (fsF hl R (q + 1)).2 = _ from hwm]) ?_
              exact ih (q + 1) _ (by omega) (by rw [show (fsF hl R (q + 1)).1 = _ from cofS_p (Int32.not_le.mp c143)]; exact hM10)
          · refine x_iload_n dX12_goes_83 1 rfl ?_
            refine x_iconst dX12_goes_84 ki_1 ?_
            refine x_aload_n dX12_goes_85 2 rfl ?_
            refine x_get (v := .ref (y + 5)) dX12_goes_86 fX12_22 (hM8.1) rfl ?_
            refine x_pc (pc' := 89) rfl ?_
            refine x_iload_n dX12_goes_89 0 rfl ?_
            refine x_ialdN (n := 4) (f := blk (upd ((fsF hl R q).1) (9 + q) ((((fsF hl R q).1) (9 + q)) - (nI 1))) 5 4) dX12_goes_90 (hM8.c5) (by omega) (by decide) ?_
            refine x_topi (y := (upd ((fsF hl R q).1) (9 + q) ((((fsF hl R q).1) (9 + q)) - (nI 1))) (5 + q)) (blk_at (by omega)) ?_
            refine x_topi (y := nI t) (by rw [upd_off (by omega)]; exact f5) ?_
            refine x_ishl dX12_goes_91 ?_
            refine x_ior dX12_goes_92 ?_
            refine x_istore_n (ls' := [(1, .int (((fsF hl R q).2) ||| ((nI 1) <<< ((nI t) &&& 31)))), (2, .int (nI q)), (0, .ref y)]) dX12_goes_93 (by decide) rfl ?_
            refine x_aload_n dX12_goes_94 2 rfl ?_
            refine x_get (v := .ref (y + 13)) dX12_goes_95 fX12_46 (hM8.1) rfl ?_
            refine x_aload_n dX12_goes_98 2 rfl ?_
            refine x_get (v := .ref (y + 5)) dX12_goes_99 fX12_22 (hM8.1) rfl ?_
            refine x_iload_n dX12_goes_102 1 rfl ?_
            refine x_pc (pc' := 103) rfl ?_
            refine x_ialdN (n := 4) (f := blk (upd ((fsF hl R q).1) (9 + q) ((((fsF hl R q).1) (9 + q)) - (nI 1))) 5 4) dX12_goes_103 (hM8.c5) (by omega) (by decide) ?_
            refine x_topi (y := (upd ((fsF hl R q).1) (9 + q) ((((fsF hl R q).1) (9 + q)) - (nI 1))) (5 + q)) (blk_at (by omega)) ?_
            refine x_topi (y := nI t) (by rw [upd_off (by omega)]; exact f5) ?_
            refine x_iconst dX12_goes_104 ki_3 ?_
            refine x_iastN (n := 7) (f := blk (upd ((fsF hl R q).1) (9 + q) ((((fsF hl R q).1) (9 + q)) - (nI 1))) 21 7) dX12_goes_105 (hM8.c13) (by omega) (by decide) ?_
            have hM11 := hM8.s13 t (nI 3) (by omega)
            refine x_aload_n dX12_goes_106 2 rfl ?_
            refine x_get (v := .ref (y + 14)) dX12_goes_107 fX12_49 (hM11.1) rfl ?_
            refine x_aload_n dX12_goes_110 2 rfl ?_
            refine x_get (v := .ref (y + 5)) dX12_goes_111 fX12_22 (hM11.1) rfl ?_
            refine x_iload_n dX12_goes_114 1 rfl ?_
            refine x_ialdN (n := 4) (f := blk (upd (upd ((fsF hl R q).1) (9 + q) ((((fsF hl R q).1) (9 + q)) - (nI 1))) (21 + t) (nI 3)) 5 4) dX12_goes_115 (hM11.c5) (by omega) (by decide) ?_
            refine x_topi (y := (upd (upd ((fsF hl R q).1) (9 + q) ((((fsF hl R q).1) (9 + q)) - (nI 1))) (21 + t) (nI 3)) (5 + q)) (blk_at (by omega)) ?_
            refine x_topi (y := nI t) (by rw [upd_off (by omega)]; rw [upd_off (by omega)]; exact f5) ?_
            refine x_aload_n dX12_goes_116 2 rfl ?_
            refine x_pc (pc' := 117) rfl ?_
            refine x_get (v := .ref (y + 1)) dX12_goes_117 fX12_9 (hM11.1) rfl ?_
            refine x_iconst dX12_goes_120 ki_5 ?_
            refine x_ialdN (n := 9) (f := scal hl (upd (upd ((fsF hl R q).1) (9 + q) ((((fsF hl R q).1) (9 + q)) - (nI 1))) (21 + t) (nI 3)) sc) dX12_goes_121 (hM11.c1) (by decide) (by decide) ?_
            refine x_topi (y := (upd (upd ((fsF hl R q).1) (9 + q) ((((fsF hl R q).1) (9 + q)) - (nI 1))) (21 + t) (nI 3)) 0) rfl ?_
            refine x_topi (y := (fsF hl R q).1 0) (by rw [upd_off (by omega)]; rw [upd_off (by omega)]) ?_
            refine x_iastN (n := 7) (f := blk (upd (upd ((fsF hl R q).1) (9 + q) ((((fsF hl R q).1) (9 + q)) - (nI 1))) (21 + t) (nI 3)) 28 7) dX12_goes_122 (hM11.c14) (by omega) (by decide) ?_
            have hM12 := hM11.s14 t ((fsF hl R q).1 0) (by omega)
            refine x_aload_n dX12_goes_123 2 rfl ?_
            refine x_get (v := .ref (y + 5)) dX12_goes_124 fX12_22 (hM12.1) rfl ?_
            refine x_iload_n dX12_goes_127 1 rfl ?_
            refine x_iconst dX12_goes_128 ki_m1 ?_
            refine x_iastN (n := 4) (f := blk (upd (upd (upd ((fsF hl R q).1) (9 + q) ((((fsF hl R q).1) (9 + q)) - (nI 1))) (21 + t) (nI 3)) (28 + t) ((fsF hl R q).1 0)) 5 4) dX12_goes_129 (hM12.c5) (by omega) (by decide) ?_
            have hM13 := hM12.s5 q (-1) (by omega)
            have hws : workS hl (fsF hl R q).1 q = _ := workS_f f5 (by omega) c80
            have hwm : workM (fsF hl R q).1 q (fsF hl R q).2 = _ := workM_f f5 (by omega) c80
            have hNw := hM13
            rw [← hws] at hNw
            refine x_aload_n dX12_goes_130 2 rfl ?_
            refine x_pc (pc' := 131) rfl ?_
            refine x_get (v := .ref (y + 7)) dX12_goes_131 fX12_28 (hNw.1) rfl ?_
            refine x_iload_n dX12_goes_134 1 rfl ?_
            refine x_dup2 dX12_goes_135 rfl rfl ?_
            refine x_ialdN (n := 4) (f := blk (workS hl (fsF hl R q).1 q) 13 4) dX12_goes_136 (hNw.c7) (by omega) (by decide) ?_
            refine x_topi (y := (workS hl (fsF hl R q).1 q) (13 + q)) (blk_at (by omega)) ?_
            refine x_aload_n dX12_goes_137 2 rfl ?_
            refine x_get (v := .ref (y + 7)) dX12_goes_138 fX12_28 (hNw.1) rfl ?_
            refine x_iload_n dX12_goes_141 1 rfl ?_
            refine x_ialdN (n := 4) (f := blk (workS hl (fsF hl R q).1 q) 13 4) dX12_goes_142 (hNw.c7) (by omega) (by decide) ?_
            refine x_topi (y := (workS hl (fsF hl R q).1 q) (13 + q)) (blk_at (by omega)) ?_
            refine x_if_le (tgt := 150) dX12_goes_143 (by decide) (fun c143 => ?_) (fun c143 => ?_)
            · refine x_iconst dX12_goes_150 ki_0 ?_
              refine x_pc (pc' := 151) rfl ?_
              refine x_isub dX12_goes_151 ?_
              refine x_iastN (n := 4) (f := blk (workS hl (fsF hl R q).1 q) 13 4) dX12_goes_152 (hNw.c7) (by omega) (by decide) ?_
              have hM14 := hNw.s7 q (((workS hl (fsF hl R q).1 q) (13 + q)) - (nI 0)) (by omega)
              refine x_iinc (v := nI (q + 1)) (ls' := [(2, .int (nI (q + 1))), (1, .int (((fsF hl R q).2) ||| ((nI 1) <<< ((nI t) &&& 31)))), (0, .ref y)]) dX12_goes_153 1 rfl (nIs _) (by decide) rfl ?_
              refine x_goto (tgt := 12) dX12_goes_156 (by decide) ?_
              refine x_leq (ls' := [(2, .int (nI (q + 1))), (1, .int (fsF hl R (q + 1)).2), (0, .ref y)]) (by rw [show (fsF hl R (q + 1)).2 = _ from hwm]) ?_
              exact ih (q + 1) _ (by omega) (by rw [show (fsF hl R (q + 1)).1 = _ from cofS_z (Int32.not_lt.mpr c143)]; exact hM14)
            · refine x_iconst dX12_goes_146 ki_1 ?_
              refine x_pc (pc' := 147) rfl ?_
              refine x_goto (tgt := 151) dX12_goes_147 (by decide) ?_
              refine x_isub dX12_goes_151 ?_
              refine x_iastN (n := 4) (f := blk (workS hl (fsF hl R q).1 q) 13 4) dX12_goes_152 (hNw.c7) (by omega) (by decide) ?_
              have hM15 := hNw.s7 q (((workS hl (fsF hl R q).1 q) (13 + q)) - (nI 1)) (by omega)
              refine x_iinc (v := nI (q + 1)) (ls' := [(2, .int (nI (q + 1))), (1, .int (((fsF hl R q).2) ||| ((nI 1) <<< ((nI t) &&& 31)))), (0, .ref y)]) dX12_goes_153 1 rfl (nIs _) (by decide) rfl ?_
              refine x_goto (tgt := 12) dX12_goes_156 (by decide) ?_
              refine x_leq (ls' := [(2, .int (nI (q + 1))), (1, .int (fsF hl R (q + 1)).2), (0, .ref y)]) (by rw [show (fsF hl R (q + 1)).2 = _ from hwm]) ?_
              exact ih (q + 1) _ (by omega) (by rw [show (fsF hl R (q + 1)).1 = _ from cofS_p (Int32.not_le.mp c143)]; exact hM15)
        · exact absurd c29 (nI_ne1 (by omega))
theorem Md_goes {K : xG} {h y : Nat} {G0 G : xHp} {hl : xHl} {r : xRw} {sc : Nat × Nat × Int32} {A : Nat → Nat → Int32} {F : Nat → Int32} {wa sa : Nat → Int64} {rv : Option (List Nat)} (hM : MW G0 G y hl r sc A F wa sa) (hO : HallOk hl) (hV : RvR A sc rv) (hrow : RowOk hl r) : xCall K mX12_goes 7 0 0 [.ref y] h G (mdX G0 h y (some (.int (goMin hl rv r).2)) hl ((goMin hl rv r).1) sc A F) := by
  refine x_entry (by decide) (ls := [(0, .ref y)]) rfl (Nat.le_of_ble_eq_true rfl) ?_
  refine x_aload_n dX12_goes_0 0 rfl ?_
  refine x_cVe (N := mX12_comeAndGo) (d' := 0) (mc := 0) (ms := 0) (cb := 0) (sb := 0) (As := []) (st := []) dX12_goes_1 mX12_comeAndGo_v lX12_398 rfl rfl (hM.1) rfl (by decide) (Nat.le_of_ble_eq_true rfl) (Md_comeAndGo hM hO) rfl (sf := fun G1 => []) (fun _ => rfl) (fun G1 hN1 => ?_)
  refine x_aload_n dX12_goes_4 0 rfl ?_
  refine x_cVe (N := mX12_takeAll) (d' := 6) (mc := 0) (ms := 0) (cb := 0) (sb := 0) (As := []) (st := []) dX12_goes_5 mX12_takeAll_v lX12_401 rfl rfl (hN1.1) rfl (by decide) (Nat.le_of_ble_eq_true rfl) (Md_takeAll hN1 hO hV (comeGo_ok hO hrow) (fun e => comeGo_end (by rw [← comeGo_low hl r (n := hl 0 4) (j := 0) (by decide)]; exact e))) rfl (sf := fun e2 => []) (fun _ => rfl) (fun e2 hq2 => ?_)
  obtain ⟨⟨w2, k2⟩, G2⟩ := e2
  have hN2 : MW G0 G2 y hl (takeF hl rv (comeGo hl r (hl 0 4)) (hl 0 3)) sc A F w2 k2 := hq2
  refine x_iconst dX12_goes_8 ki_0 ?_
  refine x_istore_n (ls' := [(1, .int (nI 0)), (0, .ref y)]) dX12_goes_9 (by decide) rfl ?_
  refine x_iconst dX12_goes_10 ki_0 ?_
  refine x_istore_n (ls' := [(2, .int (nI 0)), (1, .int (nI 0)), (0, .ref y)]) dX12_goes_11 (by decide) rfl ?_
  rw [goMin_fs (rv := rv) (r := r) hO.2.1]
  exact Md_goes_loop (r := r) (R := (takeF hl rv (comeGo hl r (hl 0 4)) (hl 0 3))) hO (takeF_ok' hO (comeGo_ok hO hrow) _ (Nat.le_refl _)) (hl 0 3) 0 G2 (by omega) hN2
theorem Md_goFor_loop {K : xG} {h y : Nat} {G0 : xHp} {hl : xHl} {r : xRw} {sc : Nat × Nat × Int32} {A : Nat → Nat → Int32} {F : Nat → Int32} {rv : Option (List Nat)} {n : Nat} (hO : HallOk hl) (hV : RvR A sc rv) (hrow : RowOk hl r) (hn : n < 100000) : ∀ (i k : Nat) (w1 k1 : Nat → Int64) (G1 : xHp), k + i = n → MW G0 G1 y hl (goN hl rv r k) sc A F w1 k1 → xV K mX12_goFor 8 0 0 h G1 2 [(2, .int (nI k)), (0, .ref y), (1, .int (nI n))] [] (mdX G0 h y none hl (goN hl rv r n) sc A F) := by
  intro i
  induction i with
  | zero =>
    intro k w1 k1 G1 hi hN
    have hi0 : k = n := by omega
    subst hi0
    refine x_iload_n dX12_goFor_2 0 rfl ?_
    refine x_iload_n dX12_goFor_3 2 rfl ?_
    refine x_icmpN_ge (tgt := 18) dX12_goFor_4 (by decide) (by omega) (by omega) (fun c4 => ?_) (fun c4 => ?_)
    · exact x_vret dX12_goFor_18 rfl (xEx_i ((w1, k1), G1) hN rfl rfl rfl)
    · exact absurd c4 (by omega)
  | succ i ih =>
    intro k w1 k1 G1 hi hN
    refine x_iload_n dX12_goFor_2 0 rfl ?_
    refine x_iload_n dX12_goFor_3 2 rfl ?_
    refine x_icmpN_ge (tgt := 18) dX12_goFor_4 (by decide) (by omega) (by omega) (fun c4 => ?_) (fun c4 => ?_)
    · exact absurd c4 (by omega)
    · refine x_aload_n dX12_goFor_7 1 rfl ?_
      refine x_cVe (N := mX12_goes) (d' := 7) (mc := 0) (ms := 0) (cb := 0) (sb := 0) (As := []) (st := []) dX12_goFor_8 mX12_goes_v lX12_404 rfl rfl (hN.1) rfl (by decide) (Nat.le_of_ble_eq_true rfl) (Md_goes hN hO hV (goN_ok hO hrow k)) rfl (sf := fun e2 => [.int ((goMin hl rv (goN hl rv r k)).2)]) (fun _ => rfl) (fun e2 hq2 => ?_)
      obtain ⟨⟨w2, k2⟩, G2⟩ := e2
      have hN2 : MW G0 G2 y hl (goN hl rv r (k + 1)) sc A F w2 k2 := hq2
      refine x_pop dX12_goFor_11 rfl ?_
      refine x_iinc (v := nI (k + 1)) (ls' := [(2, .int (nI (k + 1))), (0, .ref y), (1, .int (nI n))]) dX12_goFor_12 0 rfl (nIs _) (by decide) rfl ?_
      refine x_goto (tgt := 2) dX12_goFor_15 (by decide) ?_
      exact ih (k + 1) _ _ _ (by omega) hN2
theorem Md_goFor {K : xG} {h y : Nat} {G0 G : xHp} {hl : xHl} {r : xRw} {sc : Nat × Nat × Int32} {A : Nat → Nat → Int32} {F : Nat → Int32} {wa sa : Nat → Int64} {rv : Option (List Nat)} {n : Nat} (hM : MW G0 G y hl r sc A F wa sa) (hO : HallOk hl) (hV : RvR A sc rv) (hrow : RowOk hl r) (hn : n < 100000) : xCall K mX12_goFor 8 0 0 [.ref y, .int (nI n)] h G (mdX G0 h y none hl (goN hl rv r n) sc A F) := by
  refine x_entry (by decide) (ls := [(0, .ref y), (1, .int (nI n))]) rfl (Nat.le_of_ble_eq_true rfl) ?_
  refine x_iconst dX12_goFor_0 ki_0 ?_
  refine x_istore_n (ls' := [(2, .int (nI 0)), (0, .ref y), (1, .int (nI n))]) dX12_goFor_1 (by decide) rfl ?_
  exact Md_goFor_loop hO hV hrow hn n 0 wa sa G (by omega) hM
