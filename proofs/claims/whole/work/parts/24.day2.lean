/-! ===== Day: work, goOn, goFar ===== -/
theorem rf_nar {c : String} (o : Option Nat) : narrow (.object c) (va_rf o) = va_rf o := by cases o <;> rfl
theorem rf_fit {c : String} (o : Option Nat) : fits (.object c) (va_rf o) = true := by cases o <;> rfl
def RvAt (G : xHp) (ru : Option Nat) (rv : Option (List Nat)) (b j : Nat) : Prop := (ru = none ∧ rv = none) ∨ ∃ ra sp, ru = some ra ∧ rv = some sp ∧ RuleAt G ra sp ∧ (ra + 2 ≤ j ∨ j + 3 ≤ ra) ∧ (ra + 2 ≤ b ∨ b + 10 ≤ ra)
theorem RvAt.fr {G G' : xHp} {ru : Option Nat} {rv : Option (List Nat)} {b j : Nat} (h : RvAt G ru rv b j) (hf : ∀ a, (a < b ∨ b + 10 ≤ a) → (a < j ∨ j + 3 ≤ a) → G' a = G a) : RvAt G' ru rv b j := by
  rcases h with h | ⟨ra, sp, h1, h2, h3, h4, h5⟩
  · exact Or.inl h
  · exact Or.inr ⟨ra, sp, h1, h2, h3.fr (hf _ (by omega) (by omega)) (hf _ (by omega) (by omega)), h4, h5⟩
theorem Judge_choose {K : xG} {h b j jd : Nat} {G : xHp} {hl : xHl} {r : xRw} {ru : Option Nat} {rv : Option (List Nat)} {wd sk : Nat → Int64} {q : Nat} (hD : DayAt G b hl r jd ru) (hJ : JudgeAt G j wd sk) (hV : RvAt G ru rv b j) (hO : HallOk hl) (hne : j + 3 ≤ b ∨ b + 10 ≤ j) (hq : q < 4) : xCall K mX5_choose 2 0 0 [.ref j, .ref b, .int (nI q)] h G (xEx (fun _ : (Nat → Int64) × (Nat → Int64) => True) (fun _ => some (.int (chI (choice hl rv r q)))) (fun _ => h) (fun e => xup (xup G (j + 1) (eJ 12 e.1)) (j + 2) (eJ 32 e.2))) := by
  rcases hV with ⟨rfl, rfl⟩ | ⟨ra, sp, rfl, rfl, hR, h4, h5⟩
  · refine x_callpost (fun v h' G' hq => ?_) (Judge_choose_n hD hJ hO hne hq)
    obtain ⟨e1, e2, e3⟩ := hq
    refine ⟨(wd, sk), trivial, e1, e2, ?_⟩
    show G' = xup (xup G (j + 1) (eJ 12 wd)) (j + 2) (eJ 32 sk)
    rw [e3, xup_same (a := j + 1) hJ.2.1, xup_same hJ.2.2]
  · exact Judge_choose_s hD hJ hR hO hne ⟨h4, h5⟩ hq
theorem Day_work_loop {K : xG} {h b jd : Nat} {G : xHp} {hl : xHl} {r : xRw} {ru : Option Nat} (hD : DayAt G b hl r jd ru) (hO : HallOk hl) (hrow : RowOk hl r) : ∀ (k q : Nat), q + k = hl 0 3 → xV K mX2_work 1 0 0 h (xup G (b + 9) (eI 0 35 (workF hl r q).1)) 4 [(2, .int (nI q)), (1, .int ((workF hl r q).2)), (0, .ref b)] [] (xRet (some (.int (workF hl r (hl 0 3)).2)) h (xup G (b + 9) (eI 0 35 (workF hl r (hl 0 3)).1))) := by
  have hB := hD.2.1.2.2.2.2.2.2.2.2
  obtain ⟨o2, o3, o4, o5, -⟩ := id hO
  intro k
  induction k with
  | zero =>
    intro q hv
    have hv0 : q = hl 0 3 := by omega
    subst hv0
    refine x_iload_n dX2_work_4 0 rfl ?_
    refine x_aload_n dX2_work_5 2 rfl ?_
    refine x_get dX2_work_6 fX2_14 (xup_of (by omega) (hD.1)) rfl ?_
    refine x_get dX2_work_9 fX2_72 (xup_of (by omega) (hD.2.1.1)) rfl ?_
    refine x_icmpN_ge (tgt := 138) dX2_work_12 (by decide) (by have := hB 0 2; have := hB 0 3; have := hB 0 4; omega) (by have := hB 0 2; have := hB 0 3; have := hB 0 4; omega) (fun c12 => ?_) (fun c12 => ?_)
    · refine x_iload_n dX2_work_138 1 rfl ?_
      exact x_iret dX2_work_139 rfl (xRet_i)
    · exact absurd c12 (by omega)
  | succ k ih =>
    intro q hv
    refine x_iload_n dX2_work_4 0 rfl ?_
    refine x_aload_n dX2_work_5 2 rfl ?_
    refine x_get dX2_work_6 fX2_14 (xup_of (by omega) (hD.1)) rfl ?_
    refine x_get dX2_work_9 fX2_72 (xup_of (by omega) (hD.2.1.1)) rfl ?_
    refine x_icmpN_ge (tgt := 138) dX2_work_12 (by decide) (by have := hB 0 2; have := hB 0 3; have := hB 0 4; omega) (by have := hB 0 2; have := hB 0 3; have := hB 0 4; omega) (fun c12 => ?_) (fun c12 => ?_)
    · exact absurd c12 (by omega)
    · rcases hrow.2.1 q (by omega) with hm | ⟨t, ht, hm, hh2, g, hg1, hg2, hg3⟩
      · have w5 := (workF_5 (hl := hl) (r := r) (q := q) (by omega)).trans hm
        refine x_aload_n dX2_work_15 2 rfl ?_
        refine x_get dX2_work_16 fX2_18 (xup_of (by omega) (hD.1)) rfl ?_
        refine x_iconst dX2_work_19 ki_5 ?_
        refine x_iload_n dX2_work_20 0 rfl ?_
        refine x_pc (pc' := 21) rfl ?_
        refine x_iaddN dX2_work_21 ?_
        refine x_ialdN dX2_work_22 (xup_eq) (by omega) (by decide) ?_
        refine x_topi (y := -1) ((workF_5 (by omega)).trans hm) ?_
        refine x_istore_n (ls' := [(3, .int (-1)), (2, .int (nI q)), (1, .int ((workF hl r q).2)), (0, .ref b)]) dX2_work_23 (by decide) rfl ?_
        refine x_aload_n dX2_work_24 3 rfl ?_
        refine x_get dX2_work_25 fX2_14 (xup_of (by omega) (hD.1)) rfl ?_
        refine x_iload_n dX2_work_28 0 rfl ?_
        refine x_cV (N := mX3_isThing) (d' := 0) (mc := 0) (ms := 0) (cb := 0) (sb := 0) (As := [.int (-1)]) (st := []) dX2_work_29 mX3_isThing_v lX2_68 rfl rfl (xup_of (by omega) (hD.2.1.1)) rfl (by decide) (Nat.le_of_ble_eq_true rfl) (Hall_isThing (hD.row _).2.1) rfl (st1 := [.int (bI (inR (-1) (hl 0 4)))]) rfl ?_
        refine x_ifB_ne (tgt := 67) dX2_work_32 (by decide) (fun c32 => ?_) (fun c32 => ?_)
        · rw [inR_neg (by decide)] at c32
          exact absurd c32 (by decide)
        · refine x_aload_n dX2_work_35 3 rfl ?_
          refine x_get dX2_work_36 fX2_18 (xup_of (by omega) (hD.1)) rfl ?_
          refine x_pc (pc' := 39) rfl ?_
          refine x_iconst dX2_work_39 ki_0 ?_
          refine x_ialdN dX2_work_40 (xup_eq) (by decide) (by decide) ?_
          refine x_aload_n dX2_work_41 3 rfl ?_
          refine x_get dX2_work_42 fX2_14 (xup_of (by omega) (hD.1)) rfl ?_
          refine x_get dX2_work_45 fX2_106 (xup_of (by omega) (hD.2.1.1)) rfl ?_
          refine x_icmp_ge (x := ((workF hl r q).1) 0) (y := nI (hl 0 0)) (tgt := 132) dX2_work_48 (by decide) (fun c48 => ?_) (fun c48 => ?_)
          · refine x_iinc (v := nI (q + 1)) (ls' := [(2, .int (nI (q + 1))), (3, .int (-1)), (1, .int ((workF hl r q).2)), (0, .ref b)]) dX2_work_132 1 rfl (nIs _) (by decide) rfl ?_
            refine x_goto (tgt := 4) dX2_work_135 (by decide) ?_
            refine x_perm (ls' := [(2, .int (nI (q + 1))), (1, .int ((workF hl r q).2)), (0, .ref b)]) [0, 2, 3] rfl ?_
            have hW : (workF hl r (q + 1)).1 = _ := workS_a' w5 (Int32.not_lt.mpr c48)
            have hM : (workF hl r (q + 1)).2 = _ := workM_a w5
            refine x_leq (ls' := [(2, .int (nI (q + 1))), (1, .int ((workF hl r (q + 1)).2)), (0, .ref b)]) (by rw [hM]; try rfl) ?_
            refine x_geq (congrArg (fun f => xup G (b + 9) (eI 0 35 f)) hW.symm) ?_
            exact ih (q + 1) (by omega)
          · refine x_aload_n dX2_work_51 3 rfl ?_
            refine x_get dX2_work_52 fX2_18 (xup_of (by omega) (hD.1)) rfl ?_
            refine x_bipush dX2_work_55 kb_17 ?_
            refine x_iload_n dX2_work_57 1 rfl ?_
            refine x_pc (pc' := 58) rfl ?_
            refine x_iaddN dX2_work_58 ?_
            refine x_dup2 dX2_work_59 rfl rfl ?_
            refine x_ialdN dX2_work_60 (xup_eq) (by omega) (by decide) ?_
            refine x_iconst dX2_work_61 ki_1 ?_
            refine x_iadd dX2_work_62 ?_
            refine x_iastN dX2_work_63 (xup_eq) (by omega) (by decide) ?_
            refine x_geq xup_up ?_
            refine x_goto (tgt := 132) dX2_work_64 (by decide) ?_
            refine x_iinc (v := nI (q + 1)) (ls' := [(2, .int (nI (q + 1))), (3, .int (-1)), (1, .int ((workF hl r q).2)), (0, .ref b)]) dX2_work_132 1 rfl (nIs _) (by decide) rfl ?_
            refine x_goto (tgt := 4) dX2_work_135 (by decide) ?_
            refine x_perm (ls' := [(2, .int (nI (q + 1))), (1, .int ((workF hl r q).2)), (0, .ref b)]) [0, 2, 3] rfl ?_
            have hW : (workF hl r (q + 1)).1 = _ := workS_a w5 (Int32.not_le.mp c48)
            have hM : (workF hl r (q + 1)).2 = _ := workM_a w5
            refine x_leq (ls' := [(2, .int (nI (q + 1))), (1, .int ((workF hl r (q + 1)).2)), (0, .ref b)]) (by rw [hM]; try rfl) ?_
            refine x_geq (congrArg (fun f => xup G (b + 9) (eI 0 35 f)) hW.symm) ?_
            exact ih (q + 1) (by omega)
      · have w5 := (workF_5 (hl := hl) (r := r) (q := q) (by omega)).trans hm
        have w9 := (workF_9 (hl := hl) (r := r) (q := q) (by omega)).trans hg3
        refine x_aload_n dX2_work_15 2 rfl ?_
        refine x_get dX2_work_16 fX2_18 (xup_of (by omega) (hD.1)) rfl ?_
        refine x_iconst dX2_work_19 ki_5 ?_
        refine x_iload_n dX2_work_20 0 rfl ?_
        refine x_pc (pc' := 21) rfl ?_
        refine x_iaddN dX2_work_21 ?_
        refine x_ialdN dX2_work_22 (xup_eq) (by omega) (by decide) ?_
        refine x_topi (y := nI t) ((workF_5 (by omega)).trans hm) ?_
        refine x_istore_n (ls' := [(3, .int (nI t)), (2, .int (nI q)), (1, .int ((workF hl r q).2)), (0, .ref b)]) dX2_work_23 (by decide) rfl ?_
        refine x_aload_n dX2_work_24 3 rfl ?_
        refine x_get dX2_work_25 fX2_14 (xup_of (by omega) (hD.1)) rfl ?_
        refine x_iload_n dX2_work_28 0 rfl ?_
        refine x_cV (N := mX3_isThing) (d' := 0) (mc := 0) (ms := 0) (cb := 0) (sb := 0) (As := [.int (nI t)]) (st := []) dX2_work_29 mX3_isThing_v lX2_68 rfl rfl (xup_of (by omega) (hD.2.1.1)) rfl (by decide) (Nat.le_of_ble_eq_true rfl) (Hall_isThing (hD.row _).2.1) rfl (st1 := [.int (bI (inR (nI t) (hl 0 4)))]) rfl ?_
        refine x_ifB_ne (tgt := 67) dX2_work_32 (by decide) (fun c32 => ?_) (fun c32 => ?_)
        · refine x_aload_n dX2_work_67 3 rfl ?_
          refine x_get dX2_work_68 fX2_18 (xup_of (by omega) (hD.1)) rfl ?_
          refine x_pc (pc' := 71) rfl ?_
          refine x_bipush dX2_work_71 kb_9 ?_
          refine x_iload_n dX2_work_73 1 rfl ?_
          refine x_iaddN dX2_work_74 ?_
          refine x_dup2 dX2_work_75 rfl rfl ?_
          refine x_ialdN dX2_work_76 (xup_eq) (by omega) (by decide) ?_
          refine x_topi (y := nI g) w9 ?_
          refine x_iconst dX2_work_77 ki_1 ?_
          refine x_isubN dX2_work_78 hg1 ?_
          refine x_iastN dX2_work_79 (xup_eq) (by omega) (by decide) ?_
          refine x_geq xup_up ?_
          refine x_aload_n dX2_work_80 3 rfl ?_
          refine x_get dX2_work_81 fX2_18 (xup_of (by omega) (hD.1)) rfl ?_
          refine x_pc (pc' := 84) rfl ?_
          refine x_bipush dX2_work_84 kb_9 ?_
          refine x_iload_n dX2_work_86 1 rfl ?_
          refine x_iaddN dX2_work_87 ?_
          refine x_ialdN dX2_work_88 (xup_eq) (by omega) (by decide) ?_
          refine x_topi (y := nI (g - 1)) upd_at ?_
          refine x_ifN_gt (tgt := 132) dX2_work_89 (by decide) (by have := hB 0 2; have := hB 0 3; have := hB 0 4; omega) (fun c89 => ?_) (fun c89 => ?_)
          · refine x_iinc (v := nI (q + 1)) (ls' := [(2, .int (nI (q + 1))), (3, .int (nI t)), (1, .int ((workF hl r q).2)), (0, .ref b)]) dX2_work_132 1 rfl (nIs _) (by decide) rfl ?_
            refine x_goto (tgt := 4) dX2_work_135 (by decide) ?_
            refine x_perm (ls' := [(2, .int (nI (q + 1))), (1, .int ((workF hl r q).2)), (0, .ref b)]) [0, 2, 3] rfl ?_
            have hW : (workF hl r (q + 1)).1 = _ := workS_b w5 (by omega) w9 (by omega) hg2
            have hM : (workF hl r (q + 1)).2 = _ := workM_b w5 (by omega) w9 (by omega) hg2
            refine x_leq (ls' := [(2, .int (nI (q + 1))), (1, .int ((workF hl r (q + 1)).2)), (0, .ref b)]) (by rw [hM]; try rfl) ?_
            refine x_geq (congrArg (fun f => xup G (b + 9) (eI 0 35 f)) hW.symm) ?_
            exact ih (q + 1) (by omega)
          · refine x_aload_n dX2_work_92 3 rfl ?_
            refine x_get dX2_work_93 fX2_18 (xup_of (by omega) (hD.1)) rfl ?_
            refine x_bipush dX2_work_96 kb_21 ?_
            refine x_iload_n dX2_work_98 0 rfl ?_
            refine x_iaddN dX2_work_99 ?_
            refine x_pc (pc' := 100) rfl ?_
            refine x_iconst dX2_work_100 ki_3 ?_
            refine x_iastN dX2_work_101 (xup_eq) (by omega) (by decide) ?_
            refine x_geq xup_up ?_
            refine x_aload_n dX2_work_102 3 rfl ?_
            refine x_get dX2_work_103 fX2_18 (xup_of (by omega) (hD.1)) rfl ?_
            refine x_bipush dX2_work_106 kb_28 ?_
            refine x_iload_n dX2_work_108 0 rfl ?_
            refine x_iaddN dX2_work_109 ?_
            refine x_aload_n dX2_work_110 3 rfl ?_
            refine x_get dX2_work_111 fX2_18 (xup_of (by omega) (hD.1)) rfl ?_
            refine x_iconst dX2_work_114 ki_0 ?_
            refine x_pc (pc' := 115) rfl ?_
            refine x_ialdN dX2_work_115 (xup_eq) (by decide) (by decide) ?_
            refine x_topi (y := (workF hl r q).1 0) (by rw [upd_off (by omega), upd_off (by omega)]) ?_
            refine x_iastN dX2_work_116 (xup_eq) (by omega) (by decide) ?_
            refine x_geq xup_up ?_
            refine x_aload_n dX2_work_117 3 rfl ?_
            refine x_get dX2_work_118 fX2_18 (xup_of (by omega) (hD.1)) rfl ?_
            refine x_iconst dX2_work_121 ki_5 ?_
            refine x_iload_n dX2_work_122 1 rfl ?_
            refine x_iaddN dX2_work_123 ?_
            refine x_iconst dX2_work_124 ki_m1 ?_
            refine x_iastN dX2_work_125 (xup_eq) (by omega) (by decide) ?_
            refine x_geq xup_up ?_
            refine x_iload_n dX2_work_126 2 rfl ?_
            refine x_pc (pc' := 127) rfl ?_
            refine x_iconst dX2_work_127 ki_1 ?_
            refine x_iload_n dX2_work_128 0 rfl ?_
            refine x_ishl dX2_work_129 ?_
            refine x_ior dX2_work_130 ?_
            refine x_istore_n (ls' := [(1, .int (((workF hl r q).2) ||| ((nI 1) <<< ((nI t) &&& 31)))), (3, .int (nI t)), (2, .int (nI q)), (0, .ref b)]) dX2_work_131 (by decide) rfl ?_
            refine x_iinc (v := nI (q + 1)) (ls' := [(2, .int (nI (q + 1))), (1, .int (((workF hl r q).2) ||| ((nI 1) <<< ((nI t) &&& 31)))), (3, .int (nI t)), (0, .ref b)]) dX2_work_132 2 rfl (nIs _) (by decide) rfl ?_
            refine x_goto (tgt := 4) dX2_work_135 (by decide) ?_
            refine x_perm (ls' := [(2, .int (nI (q + 1))), (1, .int (((workF hl r q).2) ||| ((nI 1) <<< ((nI t) &&& 31)))), (0, .ref b)]) [0, 1, 3] rfl ?_
            have hg1e : g = 1 := by omega
            subst hg1e
            have hW : (workF hl r (q + 1)).1 = _ := workS_c w5 (by omega) w9
            have hM : (workF hl r (q + 1)).2 = _ := workM_c w5 (by omega) w9
            refine x_leq (ls' := [(2, .int (nI (q + 1))), (1, .int ((workF hl r (q + 1)).2)), (0, .ref b)]) (by rw [hM]; try rfl) ?_
            refine x_geq (congrArg (fun f => xup G (b + 9) (eI 0 35 f)) hW.symm) ?_
            exact ih (q + 1) (by omega)
        · rw [inR_nI (by omega)] at c32
          exact absurd c32 (by simp; omega)
theorem Day_work {K : xG} {h b jd : Nat} {G : xHp} {hl : xHl} {r : xRw} {ru : Option Nat} (hD : DayAt G b hl r jd ru) (hO : HallOk hl) (hrow : RowOk hl r) : xCall K mX2_work 1 0 0 [.ref b] h G (xRet (some (.int (workF hl r (hl 0 3)).2)) h (xup G (b + 9) (eI 0 35 (workF hl r (hl 0 3)).1))) := by
  refine x_entry (by decide) (ls := [(0, .ref b)]) rfl (Nat.le_of_ble_eq_true rfl) ?_
  refine x_iconst dX2_work_0 ki_0 ?_
  refine x_istore_n (ls' := [(1, .int (nI 0)), (0, .ref b)]) dX2_work_1 (by decide) rfl ?_
  refine x_iconst dX2_work_2 ki_0 ?_
  refine x_istore_n (ls' := [(2, .int (nI 0)), (1, .int (nI 0)), (0, .ref b)]) dX2_work_3 (by decide) rfl ?_
  refine x_geq (show G = xup G (b + 9) (eI 0 35 (workF hl r 0).1) from (xup_same hD.2.2).symm) ?_
  exact Day_work_loop hD hO hrow (hl 0 3) 0 (by omega)
theorem Day_isOver_loop {K : xG} {h b jd : Nat} {G : xHp} {hl : xHl} {r : xRw} {ru : Option Nat} (hD : DayAt G b hl r jd ru) (hO : HallOk hl) : ∀ (k t : Nat), t + k = hl 0 4 → (∀ i, i < t → ¬ r (21 + i) < 3) → xV K mX2_isOver 0 0 0 h G 2 [(1, .int (nI t)), (0, .ref b)] [] (xRet (some (.int (bI (overB hl r)))) h G) := by
  have hB := hD.2.1.2.2.2.2.2.2.2.2
  obtain ⟨o2, o3, o4, o5, -⟩ := id hO
  intro k
  induction k with
  | zero =>
    intro t hv hn
    refine x_iload_n dX2_isOver_2 0 rfl ?_
    refine x_aload_n dX2_isOver_3 1 rfl ?_
    refine x_get dX2_isOver_4 fX2_14 (hD.1) rfl ?_
    refine x_get dX2_isOver_7 fX2_76 (hD.2.1.1) rfl ?_
    refine x_icmpN_ge (tgt := 34) dX2_isOver_10 (by decide) (by have := hB 0 2; have := hB 0 3; have := hB 0 4; omega) (by have := hB 0 2; have := hB 0 3; have := hB 0 4; omega) (fun c10 => ?_) (fun c10 => ?_)
    · refine x_iconst dX2_isOver_34 ki_1 ?_
      exact x_zret dX2_isOver_35 rfl (by first | rfl | decide | exact bI_nar _) (xRet_e (by rw [show overB hl r = true from decide_eq_true (fun i hi => hn i (by omega))]; rfl) rfl)
    · exact absurd c10 (by omega)
  | succ k ih =>
    intro t hv hn
    refine x_iload_n dX2_isOver_2 0 rfl ?_
    refine x_aload_n dX2_isOver_3 1 rfl ?_
    refine x_get dX2_isOver_4 fX2_14 (hD.1) rfl ?_
    refine x_get dX2_isOver_7 fX2_76 (hD.2.1.1) rfl ?_
    refine x_icmpN_ge (tgt := 34) dX2_isOver_10 (by decide) (by have := hB 0 2; have := hB 0 3; have := hB 0 4; omega) (by have := hB 0 2; have := hB 0 3; have := hB 0 4; omega) (fun c10 => ?_) (fun c10 => ?_)
    · exact absurd c10 (by omega)
    · refine x_aload_n dX2_isOver_13 1 rfl ?_
      refine x_get dX2_isOver_14 fX2_18 (hD.1) rfl ?_
      refine x_bipush dX2_isOver_17 kb_21 ?_
      refine x_iload_n dX2_isOver_19 0 rfl ?_
      refine x_pc (pc' := 20) rfl ?_
      refine x_iaddN dX2_isOver_20 ?_
      refine x_ialdN dX2_isOver_21 (hD.2.2) (by omega) (by decide) ?_
      refine x_iconst dX2_isOver_22 ki_3 ?_
      refine x_icmp_ge (x := r (21 + t)) (y := nI 3) (tgt := 28) dX2_isOver_23 (by decide) (fun c23 => ?_) (fun c23 => ?_)
      · refine x_iinc (v := nI (t + 1)) (ls' := [(1, .int (nI (t + 1))), (0, .ref b)]) dX2_isOver_28 0 rfl (nIs _) (by decide) rfl ?_
        refine x_goto (tgt := 2) dX2_isOver_31 (by decide) ?_
        exact ih (t + 1) (by omega) (fun i hi => by
          rcases Nat.lt_or_ge i t with h1 | h1
          · exact hn i h1
          · rw [show i = t by omega]; exact Int32.not_lt.mpr c23)
      · refine x_iconst dX2_isOver_26 ki_0 ?_
        exact x_zret dX2_isOver_27 rfl (by first | rfl | decide | exact bI_nar _) (xRet_e (by rw [show overB hl r = false from decide_eq_false (fun q => q t (by omega) (Int32.not_le.mp c23))]; rfl) rfl)
theorem Day_isOver {K : xG} {h b jd : Nat} {G : xHp} {hl : xHl} {r : xRw} {ru : Option Nat} (hD : DayAt G b hl r jd ru) (hO : HallOk hl) : xCall K mX2_isOver 0 0 0 [.ref b] h G (xRet (some (.int (bI (overB hl r)))) h G) := by
  refine x_entry (by decide) (ls := [(0, .ref b)]) rfl (Nat.le_of_ble_eq_true rfl) ?_
  refine x_iconst dX2_isOver_0 ki_0 ?_
  refine x_istore_n (ls' := [(1, .int (nI 0)), (0, .ref b)]) dX2_isOver_1 (by decide) rfl ?_
  exact Day_isOver_loop hD hO (hl 0 4) 0 (by omega) (fun i hi => by omega)
/-- the heap behind minutes: the row, and what the judge wrote down -/
abbrev dayG (G : xHp) (b j : Nat) (r : xRw) (w s : Nat → Int64) : xHp := xup (xup (xup G (b + 9) (eI 0 35 r)) (j + 1) (eJ 12 w)) (j + 2) (eJ 32 s)
theorem DayAt.go {G : xHp} {b j : Nat} {hl : xHl} {r r' : xRw} {ru : Option Nat} {w s : Nat → Int64} (h : DayAt G b hl r j ru) (hne : j + 3 ≤ b ∨ b + 10 ≤ j) : DayAt (dayG G b j r' w s) b hl r' j ru := ((h.row r').off (by omega)).off (by omega)
theorem JudgeAt.go {G : xHp} {b j : Nat} {r' : xRw} {wd sk w s : Nat → Int64} (h : JudgeAt G j wd sk) (hne : j + 3 ≤ b ∨ b + 10 ≤ j) : JudgeAt (dayG G b j r' w s) j w s := ((h.fr (G' := xup G (b + 9) (eI 0 35 r')) (fun a h1 h2 => xup_ne (by omega))).w w).s s
theorem RvAt.go {G : xHp} {b j : Nat} {ru : Option Nat} {rv : Option (List Nat)} {r' : xRw} {w s : Nat → Int64} (h : RvAt G ru rv b j) : RvAt (dayG G b j r' w s) ru rv b j := h.fr (fun a h1 h2 => by unfold dayG; rw [xup_ne (by omega), xup_ne (by omega), xup_ne (by omega)])
theorem dayG_2 {G : xHp} {b j : Nat} {r r' : xRw} {w s w' s' : Nat → Int64} (hne : j + 3 ≤ b ∨ b + 10 ≤ j) : dayG (dayG G b j r w s) b j r' w' s' = dayG G b j r' w' s' := by
  unfold dayG
  rw [xup_dig2 (a := b + 9) (by omega) (by omega), xup_dig (a := j + 1) (by omega), xup_up]
abbrev goQ (G : xHp) (h b j : Nat) (v : Int32) (r : xRw) : xPost := xEx (fun _ : (Nat → Int64) × (Nat → Int64) => True) (fun _ => some (.int v)) (fun _ => h) (fun e => dayG G b j r e.1 e.2)
theorem Day_goOn_l2 {K : xG} {h b j : Nat} {G : xHp} {hl : xHl} {r : xRw} {ru : Option Nat} {rv : Option (List Nat)} {wd sk : Nat → Int64} {wx sx : Nat → Int64} (hD : DayAt G b hl r j ru) (hJ : JudgeAt G j wd sk) (hV : RvAt G ru rv b j) (hO : HallOk hl) (hne : j + 3 ≤ b ∨ b + 10 ≤ j) (hrow : RowOk hl r) : ∀ (k q : Nat), q + k = hl 0 3 → xV K mX2_goOn 3 0 0 h (xup (xup (xup G (b + 9) (eI 0 35 (cofF (workF hl (takeF hl rv (comeGo hl r (hl 0 4)) (hl 0 3)) (hl 0 3)).1 q))) (j + 1) (eJ 12 wx)) (j + 2) (eJ 32 sx)) 80 [(3, .int (nI q)), (2, .int ((workF hl (takeF hl rv (comeGo hl r (hl 0 4)) (hl 0 3)) (hl 0 3)).2)), (0, .ref b)] [] (goQ G h b j (goMin hl rv r).2 (goMin hl rv r).1) := by
  have hB := hD.2.1.2.2.2.2.2.2.2.2
  obtain ⟨o2, o3, o4, o5, -⟩ := id hO
  intro k
  induction k with
  | zero =>
    intro q hv
    have hv0 : q = hl 0 3 := by omega
    subst hv0
    refine x_iload_n dX2_goOn_80 0 rfl ?_
    refine x_aload_n dX2_goOn_81 2 rfl ?_
    refine x_get dX2_goOn_82 fX2_14 (xup_of (by omega) (xup_of (by omega) (xup_of (by omega) (hD.1)))) rfl ?_
    refine x_get dX2_goOn_85 fX2_72 (xup_of (by omega) (xup_of (by omega) (xup_of (by omega) (hD.2.1.1)))) rfl ?_
    refine x_icmpN_ge (tgt := 122) dX2_goOn_88 (by decide) (by have := hB 0 2; have := hB 0 3; have := hB 0 4; omega) (by have := hB 0 2; have := hB 0 3; have := hB 0 4; omega) (fun c88 => ?_) (fun c88 => ?_)
    · refine x_aload_n dX2_goOn_122 2 rfl ?_
      refine x_get dX2_goOn_123 fX2_18 (xup_of (by omega) (xup_of (by omega) (xup_of (by omega) (hD.1)))) rfl ?_
      refine x_iconst dX2_goOn_126 ki_0 ?_
      refine x_dup2 dX2_goOn_127 rfl rfl ?_
      refine x_pc (pc' := 128) rfl ?_
      refine x_ialdN dX2_goOn_128 (xup_of (by omega) (xup_of (by omega) (xup_eq))) (by decide) (by decide) ?_
      refine x_iconst dX2_goOn_129 ki_1 ?_
      refine x_iadd dX2_goOn_130 ?_
      refine x_iastN dX2_goOn_131 (xup_of (by omega) (xup_of (by omega) (xup_eq))) (by decide) (by decide) ?_
      refine x_geq (xup_dig2 (by omega) (by omega)) ?_
      refine x_iload_n dX2_goOn_132 1 rfl ?_
      exact x_iret dX2_goOn_133 rfl (xEx_i (wx, sx) trivial rfl rfl rfl)
    · exact absurd c88 (by omega)
  | succ k ih =>
    intro q hv
    refine x_iload_n dX2_goOn_80 0 rfl ?_
    refine x_aload_n dX2_goOn_81 2 rfl ?_
    refine x_get dX2_goOn_82 fX2_14 (xup_of (by omega) (xup_of (by omega) (xup_of (by omega) (hD.1)))) rfl ?_
    refine x_get dX2_goOn_85 fX2_72 (xup_of (by omega) (xup_of (by omega) (xup_of (by omega) (hD.2.1.1)))) rfl ?_
    refine x_icmpN_ge (tgt := 122) dX2_goOn_88 (by decide) (by have := hB 0 2; have := hB 0 3; have := hB 0 4; omega) (by have := hB 0 2; have := hB 0 3; have := hB 0 4; omega) (fun c88 => ?_) (fun c88 => ?_)
    · exact absurd c88 (by omega)
    · refine x_aload_n dX2_goOn_91 2 rfl ?_
      refine x_get dX2_goOn_92 fX2_18 (xup_of (by omega) (xup_of (by omega) (xup_of (by omega) (hD.1)))) rfl ?_
      refine x_bipush dX2_goOn_95 kb_13 ?_
      refine x_iload_n dX2_goOn_97 0 rfl ?_
      refine x_pc (pc' := 98) rfl ?_
      refine x_iaddN dX2_goOn_98 ?_
      refine x_ialdN dX2_goOn_99 (xup_of (by omega) (xup_of (by omega) (xup_eq))) (by omega) (by decide) ?_
      refine x_if_le (tgt := 116) dX2_goOn_100 (by decide) (fun c100 => ?_) (fun c100 => ?_)
      · refine x_iinc (v := nI (q + 1)) (ls' := [(3, .int (nI (q + 1))), (2, .int ((workF hl (takeF hl rv (comeGo hl r (hl 0 4)) (hl 0 3)) (hl 0 3)).2)), (0, .ref b)]) dX2_goOn_116 0 rfl (nIs _) (by decide) rfl ?_
        refine x_goto (tgt := 80) dX2_goOn_119 (by decide) ?_
        have hW : cofF (workF hl (takeF hl rv (comeGo hl r (hl 0 4)) (hl 0 3)) (hl 0 3)).1 (q + 1) = cofF (workF hl (takeF hl rv (comeGo hl r (hl 0 4)) (hl 0 3)) (hl 0 3)).1 q := if_neg (Int32.not_lt.mpr c100)
        refine x_geq (congrArg (fun f => dayG G b j f wx sx) hW.symm) ?_
        exact ih (q + 1) (by omega)
      · refine x_aload_n dX2_goOn_103 2 rfl ?_
        refine x_get dX2_goOn_104 fX2_18 (xup_of (by omega) (xup_of (by omega) (xup_of (by omega) (hD.1)))) rfl ?_
        refine x_bipush dX2_goOn_107 kb_13 ?_
        refine x_iload_n dX2_goOn_109 0 rfl ?_
        refine x_iaddN dX2_goOn_110 ?_
        refine x_dup2 dX2_goOn_111 rfl rfl ?_
        refine x_ialdN dX2_goOn_112 (xup_of (by omega) (xup_of (by omega) (xup_eq))) (by omega) (by decide) ?_
        refine x_pc (pc' := 113) rfl ?_
        refine x_iconst dX2_goOn_113 ki_1 ?_
        refine x_isub dX2_goOn_114 ?_
        refine x_iastN dX2_goOn_115 (xup_of (by omega) (xup_of (by omega) (xup_eq))) (by omega) (by decide) ?_
        refine x_geq (xup_dig2 (by omega) (by omega)) ?_
        refine x_iinc (v := nI (q + 1)) (ls' := [(3, .int (nI (q + 1))), (2, .int ((workF hl (takeF hl rv (comeGo hl r (hl 0 4)) (hl 0 3)) (hl 0 3)).2)), (0, .ref b)]) dX2_goOn_116 0 rfl (nIs _) (by decide) rfl ?_
        refine x_goto (tgt := 80) dX2_goOn_119 (by decide) ?_
        have hW : cofF (workF hl (takeF hl rv (comeGo hl r (hl 0 4)) (hl 0 3)) (hl 0 3)).1 (q + 1) = _ := if_pos (Int32.not_le.mp c100)
        refine x_geq (congrArg (fun f => dayG G b j f wx sx) hW.symm) ?_
        exact ih (q + 1) (by omega)
theorem Day_goOn_l1 {K : xG} {h b j : Nat} {G : xHp} {hl : xHl} {r : xRw} {ru : Option Nat} {rv : Option (List Nat)} {wd sk : Nat → Int64} (hD : DayAt G b hl r j ru) (hJ : JudgeAt G j wd sk) (hV : RvAt G ru rv b j) (hO : HallOk hl) (hne : j + 3 ≤ b ∨ b + 10 ≤ j) (hrow : RowOk hl r) : ∀ (k q : Nat) (wx sx : Nat → Int64), q + k = hl 0 3 → xV K mX2_goOn 3 0 0 h (xup (xup (xup G (b + 9) (eI 0 35 (takeF hl rv (comeGo hl r (hl 0 4)) q))) (j + 1) (eJ 12 wx)) (j + 2) (eJ 32 sx)) 7 [(2, .int (nI q)), (1, .int (bI true)), (0, .ref b)] [] (goQ G h b j (goMin hl rv r).2 (goMin hl rv r).1) := by
  have hB := hD.2.1.2.2.2.2.2.2.2.2
  obtain ⟨o2, o3, o4, o5, -⟩ := id hO
  have hcg := comeGo_ok hO hrow
  intro k
  induction k with
  | zero =>
    intro q wx sx hv
    have hv0 : q = hl 0 3 := by omega
    subst hv0
    refine x_iload_n dX2_goOn_7 0 rfl ?_
    refine x_aload_n dX2_goOn_8 2 rfl ?_
    refine x_get dX2_goOn_9 fX2_14 (xup_of (by omega) (xup_of (by omega) (xup_of (by omega) (hD.1)))) rfl ?_
    refine x_get dX2_goOn_12 fX2_72 (xup_of (by omega) (xup_of (by omega) (xup_of (by omega) (hD.2.1.1)))) rfl ?_
    refine x_icmpN_ge (tgt := 73) dX2_goOn_15 (by decide) (by have := hB 0 2; have := hB 0 3; have := hB 0 4; omega) (by have := hB 0 2; have := hB 0 3; have := hB 0 4; omega) (fun c15 => ?_) (fun c15 => ?_)
    · refine x_aload_n dX2_goOn_73 2 rfl ?_
      refine x_cV (N := mX2_work) (d' := 1) (mc := 0) (ms := 0) (cb := 0) (sb := 0) (As := []) (st := []) dX2_goOn_74 mX2_work_v lX2_96 rfl rfl (xup_of (by omega) (xup_of (by omega) (xup_of (by omega) (hD.1)))) rfl (by decide) (Nat.le_of_ble_eq_true rfl) (Day_work (hD.go hne) hO (takeF_ok hO hcg (hl 0 3) (Nat.le_refl _))) rfl (st1 := [.int ((workF hl (takeF hl rv (comeGo hl r (hl 0 4)) (hl 0 3)) (hl 0 3)).2)]) rfl ?_
      refine x_geq (xup_dig2 (by omega) (by omega)) ?_
      refine x_istore_n (ls' := [(2, .int ((workF hl (takeF hl rv (comeGo hl r (hl 0 4)) (hl 0 3)) (hl 0 3)).2)), (1, .int (bI true)), (0, .ref b)]) dX2_goOn_77 (by decide) rfl ?_
      refine x_iconst dX2_goOn_78 ki_0 ?_
      refine x_pc (pc' := 79) rfl ?_
      refine x_istore_n (ls' := [(3, .int (nI 0)), (2, .int ((workF hl (takeF hl rv (comeGo hl r (hl 0 4)) (hl 0 3)) (hl 0 3)).2)), (1, .int (bI true)), (0, .ref b)]) dX2_goOn_79 (by decide) rfl ?_
      refine x_perm (ls' := [(3, .int (nI 0)), (2, .int ((workF hl (takeF hl rv (comeGo hl r (hl 0 4)) (hl 0 3)) (hl 0 3)).2)), (0, .ref b)]) [0, 1, 3] rfl ?_
      exact Day_goOn_l2 hD hJ hV hO hne hrow (hl 0 3) 0 (by omega)
    · exact absurd c15 (by omega)
  | succ k ih =>
    intro q wx sx hv
    refine x_iload_n dX2_goOn_7 0 rfl ?_
    refine x_aload_n dX2_goOn_8 2 rfl ?_
    refine x_get dX2_goOn_9 fX2_14 (xup_of (by omega) (xup_of (by omega) (xup_of (by omega) (hD.1)))) rfl ?_
    refine x_get dX2_goOn_12 fX2_72 (xup_of (by omega) (xup_of (by omega) (xup_of (by omega) (hD.2.1.1)))) rfl ?_
    refine x_icmpN_ge (tgt := 73) dX2_goOn_15 (by decide) (by have := hB 0 2; have := hB 0 3; have := hB 0 4; omega) (by have := hB 0 2; have := hB 0 3; have := hB 0 4; omega) (fun c15 => ?_) (fun c15 => ?_)
    · exact absurd c15 (by omega)
    · refine x_iload_n dX2_goOn_18 1 rfl ?_
      refine x_ifB_eq (tgt := 73) dX2_goOn_19 (by decide) (fun c19 => ?_) (fun c19 => ?_)
      · exact absurd c19 (by decide)
      · refine x_aload_n dX2_goOn_22 2 rfl ?_
        refine x_get dX2_goOn_23 fX2_18 (xup_of (by omega) (xup_of (by omega) (xup_of (by omega) (hD.1)))) rfl ?_
        refine x_pc (pc' := 26) rfl ?_
        refine x_iconst dX2_goOn_26 ki_5 ?_
        refine x_iload_n dX2_goOn_27 0 rfl ?_
        refine x_iaddN dX2_goOn_28 ?_
        refine x_ialdN dX2_goOn_29 (xup_of (by omega) (xup_of (by omega) (xup_eq))) (by omega) (by decide) ?_
        refine x_iconst dX2_goOn_30 ki_m1 ?_
        refine x_icmp_ne (x := (takeF hl rv (comeGo hl r (hl 0 4)) q) (5 + q)) (y := (-1)) (tgt := 67) dX2_goOn_31 (by decide) (fun c31 => ?_) (fun c31 => ?_)
        · refine x_iinc (v := nI (q + 1)) (ls' := [(2, .int (nI (q + 1))), (1, .int (bI true)), (0, .ref b)]) dX2_goOn_67 0 rfl (nIs _) (by decide) rfl ?_
          refine x_goto (tgt := 7) dX2_goOn_70 (by decide) ?_
          have hW : takeF hl rv (comeGo hl r (hl 0 4)) (q + 1) = _ := if_neg (fun z => c31 z.1)
          refine x_geq (congrArg (fun f => dayG G b j f wx sx) hW.symm) ?_
          exact ih (q + 1) wx sx (by omega)
        · refine x_aload_n dX2_goOn_34 2 rfl ?_
          refine x_get dX2_goOn_35 fX2_18 (xup_of (by omega) (xup_of (by omega) (xup_of (by omega) (hD.1)))) rfl ?_
          refine x_bipush dX2_goOn_38 kb_13 ?_
          refine x_iload_n dX2_goOn_40 0 rfl ?_
          refine x_pc (pc' := 41) rfl ?_
          refine x_iaddN dX2_goOn_41 ?_
          refine x_ialdN dX2_goOn_42 (xup_of (by omega) (xup_of (by omega) (xup_eq))) (by omega) (by decide) ?_
          refine x_if_ne (tgt := 67) dX2_goOn_43 (by decide) (fun c43 => ?_) (fun c43 => ?_)
          · refine x_iinc (v := nI (q + 1)) (ls' := [(2, .int (nI (q + 1))), (1, .int (bI true)), (0, .ref b)]) dX2_goOn_67 0 rfl (nIs _) (by decide) rfl ?_
            refine x_goto (tgt := 7) dX2_goOn_70 (by decide) ?_
            have hW : takeF hl rv (comeGo hl r (hl 0 4)) (q + 1) = _ := if_neg (fun z => c43 z.2)
            refine x_geq (congrArg (fun f => dayG G b j f wx sx) hW.symm) ?_
            exact ih (q + 1) wx sx (by omega)
          · refine x_aload_n dX2_goOn_46 2 rfl ?_
            refine x_get dX2_goOn_47 fX2_22 (xup_of (by omega) (xup_of (by omega) (xup_of (by omega) (hD.1)))) rfl ?_
            refine x_aload_n dX2_goOn_50 2 rfl ?_
            refine x_iload_n dX2_goOn_51 0 rfl ?_
            refine x_cVe (N := mX5_choose) (d' := 2) (mc := 0) (ms := 0) (cb := 0) (sb := 0) (As := [.ref b, .int (nI q)]) (st := []) dX2_goOn_52 mX5_choose_v lX2_86 rfl rfl (xup_of (by omega) (xup_of (by omega) (xup_of (by omega) (hJ.1)))) rfl (by decide) (Nat.le_of_ble_eq_true rfl) (Judge_choose (hD.go hne) (hJ.go hne) hV.go hO hne (by omega)) rfl (sf := fun e1 => [.int (chI (choice hl rv (takeF hl rv (comeGo hl r (hl 0 4)) q) q))]) (fun _ => rfl) (fun e1 _ => ?_)
            refine x_geq (by rw [xup_dig (a := j + 1) (by omega), xup_up] : _ = dayG G b j (takeF hl rv (comeGo hl r (hl 0 4)) q) e1.1 e1.2) ?_
            rcases hch : choice hl rv (takeF hl rv (comeGo hl r (hl 0 4)) q) q with _ | t
            · refine x_topi (y := -1) rfl ?_
              refine x_istore_n (ls' := [(3, .int (-1)), (2, .int (nI q)), (1, .int (bI true)), (0, .ref b)]) dX2_goOn_55 (by decide) rfl ?_
              refine x_iload_n dX2_goOn_56 0 rfl ?_
              refine x_pc (pc' := 57) rfl ?_
              refine x_iconst dX2_goOn_57 ki_m1 ?_
              refine x_icmp_eq (x := (-1)) (y := (-1)) (tgt := 67) dX2_goOn_58 (by decide) (fun c58 => ?_) (fun c58 => ?_)
              · refine x_iinc (v := nI (q + 1)) (ls' := [(2, .int (nI (q + 1))), (3, .int (-1)), (1, .int (bI true)), (0, .ref b)]) dX2_goOn_67 1 rfl (nIs _) (by decide) rfl ?_
                refine x_goto (tgt := 7) dX2_goOn_70 (by decide) ?_
                refine x_perm (ls' := [(2, .int (nI (q + 1))), (1, .int (bI true)), (0, .ref b)]) [0, 2, 3] rfl ?_
                have hW : takeF hl rv (comeGo hl r (hl 0 4)) (q + 1) = _ := (if_pos ⟨c31, c43⟩).trans (by rw [hch])
                refine x_geq (congrArg (fun f => dayG G b j f e1.1 e1.2) hW.symm) ?_
                exact ih (q + 1) e1.1 e1.2 (by omega)
              · exact absurd rfl c58
            · refine x_topi (y := nI t) rfl ?_
              have htt := (choice_some hch).1
              refine x_istore_n (ls' := [(3, .int (nI t)), (2, .int (nI q)), (1, .int (bI true)), (0, .ref b)]) dX2_goOn_55 (by decide) rfl ?_
              refine x_iload_n dX2_goOn_56 0 rfl ?_
              refine x_pc (pc' := 57) rfl ?_
              refine x_iconst dX2_goOn_57 ki_m1 ?_
              refine x_icmp_eq (x := nI t) (y := (-1)) (tgt := 67) dX2_goOn_58 (by decide) (fun c58 => ?_) (fun c58 => ?_)
              · exact absurd c58 (nI_ne1 (by omega))
              · refine x_aload_n dX2_goOn_61 3 rfl ?_
                refine x_iload_n dX2_goOn_62 1 rfl ?_
                refine x_iload_n dX2_goOn_63 0 rfl ?_
                refine x_cV (N := mX2_begin) (d' := 1) (mc := 0) (ms := 0) (cb := 0) (sb := 0) (As := [.int (nI q), .int (nI t)]) (st := []) dX2_goOn_64 mX2_begin_v lX2_92 rfl rfl (xup_of (by omega) (xup_of (by omega) (xup_of (by omega) (hD.1)))) rfl (by decide) (Nat.le_of_ble_eq_true rfl) (Day_begin (hD.go hne) (by omega) (by omega) (by have := (o5 t (by omega)).1; omega)) rfl (st1 := []) rfl ?_
                refine x_geq (xup_dig2 (by omega) (by omega)) ?_
                refine x_iinc (v := nI (q + 1)) (ls' := [(2, .int (nI (q + 1))), (3, .int (nI t)), (1, .int (bI true)), (0, .ref b)]) dX2_goOn_67 1 rfl (nIs _) (by decide) rfl ?_
                refine x_goto (tgt := 7) dX2_goOn_70 (by decide) ?_
                refine x_perm (ls' := [(2, .int (nI (q + 1))), (1, .int (bI true)), (0, .ref b)]) [0, 2, 3] rfl ?_
                have hW : takeF hl rv (comeGo hl r (hl 0 4)) (q + 1) = _ := (if_pos ⟨c31, c43⟩).trans (by rw [hch])
                refine x_geq (congrArg (fun f => dayG G b j f e1.1 e1.2) hW.symm) ?_
                exact ih (q + 1) e1.1 e1.2 (by omega)
theorem Day_goOn {K : xG} {h b j : Nat} {G : xHp} {hl : xHl} {r : xRw} {ru : Option Nat} {rv : Option (List Nat)} {wd sk : Nat → Int64} (hD : DayAt G b hl r j ru) (hJ : JudgeAt G j wd sk) (hV : RvAt G ru rv b j) (hO : HallOk hl) (hne : j + 3 ≤ b ∨ b + 10 ≤ j) (hrow : RowOk hl r) : xCall K mX2_goOn 3 0 0 [.ref b] h G (goQ G h b j (goMin hl rv r).2 (goMin hl rv r).1) := by
  refine x_entry (by decide) (ls := [(0, .ref b)]) rfl (Nat.le_of_ble_eq_true rfl) ?_
  have hB := hD.2.1.2.2.2.2.2.2.2.2
  obtain ⟨o2, o3, o4, o5, -⟩ := id hO
  have hcg := comeGo_ok hO hrow
  refine x_aload_n dX2_goOn_0 0 rfl ?_
  refine x_cV (N := mX2_comeAndGo) (d' := 0) (mc := 0) (ms := 0) (cb := 0) (sb := 0) (As := []) (st := []) dX2_goOn_1 mX2_comeAndGo_v lX2_82 rfl rfl (hD.1) rfl (by decide) (Nat.le_of_ble_eq_true rfl) (Day_comeAndGo hD hO) rfl (st1 := [.int (bI (awF hl r (hl 0 4)))]) rfl ?_
  refine x_istore_n (ls' := [(1, .int (bI (awF hl r (hl 0 4)))), (0, .ref b)]) dX2_goOn_4 (by decide) rfl ?_
  refine x_iconst dX2_goOn_5 ki_0 ?_
  refine x_istore_n (ls' := [(2, .int (nI 0)), (1, .int (bI (awF hl r (hl 0 4)))), (0, .ref b)]) dX2_goOn_6 (by decide) rfl ?_
  refine x_geq (show xup G (b + 9) (eI 0 35 (comeGo hl r (hl 0 4))) = dayG G b j (comeGo hl r (hl 0 4)) wd sk from by unfold dayG; rw [xup_same (G := xup G (b + 9) _) (a := j + 1) (xup_of (by omega) hJ.2.1), xup_same (xup_of (by omega) hJ.2.2)]) ?_
  rcases haw : awF hl r (hl 0 4) with _ | _
  · have hno : takeF hl rv (comeGo hl r (hl 0 4)) (hl 0 3) = comeGo hl r (hl 0 4) := takeF_no (fun t ht => (awF_no haw t ht).elim id (fun z => by omega)) _
    refine x_iload_n dX2_goOn_7 0 rfl ?_
    refine x_aload_n dX2_goOn_8 2 rfl ?_
    refine x_get dX2_goOn_9 fX2_14 (xup_of (by omega) (xup_of (by omega) (xup_of (by omega) (hD.1)))) rfl ?_
    refine x_get dX2_goOn_12 fX2_72 (xup_of (by omega) (xup_of (by omega) (xup_of (by omega) (hD.2.1.1)))) rfl ?_
    refine x_pc (pc' := 15) rfl ?_
    refine x_icmpN_ge (tgt := 73) dX2_goOn_15 (by decide) (by have := hB 0 2; have := hB 0 3; have := hB 0 4; omega) (by have := hB 0 2; have := hB 0 3; have := hB 0 4; omega) (fun c15 => ?_) (fun c15 => ?_)
    · refine x_aload_n dX2_goOn_73 2 rfl ?_
      refine x_geq (congrArg (fun f => dayG G b j f wd sk) hno.symm) ?_
      refine x_cV (N := mX2_work) (d' := 1) (mc := 0) (ms := 0) (cb := 0) (sb := 0) (As := []) (st := []) dX2_goOn_74 mX2_work_v lX2_96 rfl rfl (xup_of (by omega) (xup_of (by omega) (xup_of (by omega) (hD.1)))) rfl (by decide) (Nat.le_of_ble_eq_true rfl) (Day_work (hD.go hne) hO (takeF_ok hO hcg (hl 0 3) (Nat.le_refl _))) rfl (st1 := [.int ((workF hl (takeF hl rv (comeGo hl r (hl 0 4)) (hl 0 3)) (hl 0 3)).2)]) rfl ?_
      refine x_geq (xup_dig2 (by omega) (by omega)) ?_
      refine x_istore_n (ls' := [(2, .int ((workF hl (takeF hl rv (comeGo hl r (hl 0 4)) (hl 0 3)) (hl 0 3)).2)), (1, .int (bI false)), (0, .ref b)]) dX2_goOn_77 (by decide) rfl ?_
      refine x_iconst dX2_goOn_78 ki_0 ?_
      refine x_istore_n (ls' := [(3, .int (nI 0)), (2, .int ((workF hl (takeF hl rv (comeGo hl r (hl 0 4)) (hl 0 3)) (hl 0 3)).2)), (1, .int (bI false)), (0, .ref b)]) dX2_goOn_79 (by decide) rfl ?_
      refine x_perm (ls' := [(3, .int (nI 0)), (2, .int ((workF hl (takeF hl rv (comeGo hl r (hl 0 4)) (hl 0 3)) (hl 0 3)).2)), (0, .ref b)]) [0, 1, 3] rfl ?_
      exact Day_goOn_l2 hD hJ hV hO hne hrow (hl 0 3) 0 (by omega)
    · refine x_iload_n dX2_goOn_18 1 rfl ?_
      refine x_ifB_eq (tgt := 73) dX2_goOn_19 (by decide) (fun c19 => ?_) (fun c19 => ?_)
      · refine x_aload_n dX2_goOn_73 2 rfl ?_
        refine x_geq (congrArg (fun f => dayG G b j f wd sk) hno.symm) ?_
        refine x_cV (N := mX2_work) (d' := 1) (mc := 0) (ms := 0) (cb := 0) (sb := 0) (As := []) (st := []) dX2_goOn_74 mX2_work_v lX2_96 rfl rfl (xup_of (by omega) (xup_of (by omega) (xup_of (by omega) (hD.1)))) rfl (by decide) (Nat.le_of_ble_eq_true rfl) (Day_work (hD.go hne) hO (takeF_ok hO hcg (hl 0 3) (Nat.le_refl _))) rfl (st1 := [.int ((workF hl (takeF hl rv (comeGo hl r (hl 0 4)) (hl 0 3)) (hl 0 3)).2)]) rfl ?_
        refine x_geq (xup_dig2 (by omega) (by omega)) ?_
        refine x_istore_n (ls' := [(2, .int ((workF hl (takeF hl rv (comeGo hl r (hl 0 4)) (hl 0 3)) (hl 0 3)).2)), (1, .int (bI false)), (0, .ref b)]) dX2_goOn_77 (by decide) rfl ?_
        refine x_iconst dX2_goOn_78 ki_0 ?_
        refine x_istore_n (ls' := [(3, .int (nI 0)), (2, .int ((workF hl (takeF hl rv (comeGo hl r (hl 0 4)) (hl 0 3)) (hl 0 3)).2)), (1, .int (bI false)), (0, .ref b)]) dX2_goOn_79 (by decide) rfl ?_
        refine x_perm (ls' := [(3, .int (nI 0)), (2, .int ((workF hl (takeF hl rv (comeGo hl r (hl 0 4)) (hl 0 3)) (hl 0 3)).2)), (0, .ref b)]) [0, 1, 3] rfl ?_
        exact Day_goOn_l2 hD hJ hV hO hne hrow (hl 0 3) 0 (by omega)
      · exact absurd c19 (by decide)
  · exact Day_goOn_l1 hD hJ hV hO hne hrow (hl 0 3) 0 wd sk (by omega)
def lessS (hl : xHl) (r : xRw) (f s : Nat) : Int32 := if r (5 + f) = -1 ∨ r (5 + s) = -1 then 0 else if hl 3 (f * 4 + hl 4 (thN (r (5 + s)))) = 0 ∨ hl 3 (s * 4 + hl 4 (thN (r (5 + f)))) = 0 then 0 else r (9 + f) + r (9 + s) - nI (effS hl f (thN (r (5 + s)))) - nI (effS hl s (thN (r (5 + f))))
theorem Day_lessBySwap {K : xG} {h b jd : Nat} {G : xHp} {hl : xHl} {r : xRw} {ru : Option Nat} {f s : Nat} (hD : DayAt G b hl r jd ru) (hO : HallOk hl) (hrow : RowOk hl r) (hf : f < hl 0 3) (hs : s < hl 0 3) : xCall K mX2_lessBySwap 1 0 0 [.ref b, .int (nI f), .int (nI s)] h G (xRet (some (.int (lessS hl r f s))) h G) := by
  refine x_entry (by decide) (ls := [(0, .ref b), (1, .int (nI f)), (2, .int (nI s))]) rfl (Nat.le_of_ble_eq_true rfl) ?_
  have hB := hD.2.1.2.2.2.2.2.2.2.2
  obtain ⟨o2, o3, o4, o5, -⟩ := id hO
  rcases hrow.2.1 f hf with hm1 | ⟨t1, ht1, hm1, -⟩ <;> rcases hrow.2.1 s hs with hm2 | ⟨t2, ht2, hm2, -⟩
  · refine x_aload_n dX2_lessBySwap_0 0 rfl ?_
    refine x_get dX2_lessBySwap_1 fX2_18 (hD.1) rfl ?_
    refine x_iconst dX2_lessBySwap_4 ki_5 ?_
    refine x_iload_n dX2_lessBySwap_5 1 rfl ?_
    refine x_iaddN dX2_lessBySwap_6 ?_
    refine x_ialdN dX2_lessBySwap_7 (hD.2.2) (by omega) (by decide) ?_
    refine x_topi (y := -1) hm1 ?_
    refine x_istore_n (ls' := [(3, .int (-1)), (0, .ref b), (1, .int (nI f)), (2, .int (nI s))]) dX2_lessBySwap_8 (by decide) rfl ?_
    refine x_aload_n dX2_lessBySwap_9 1 rfl ?_
    refine x_get dX2_lessBySwap_10 fX2_18 (hD.1) rfl ?_
    refine x_pc (pc' := 13) rfl ?_
    refine x_iconst dX2_lessBySwap_13 ki_5 ?_
    refine x_iload_n dX2_lessBySwap_14 3 rfl ?_
    refine x_iaddN dX2_lessBySwap_15 ?_
    refine x_ialdN dX2_lessBySwap_16 (hD.2.2) (by omega) (by decide) ?_
    refine x_topi (y := -1) hm2 ?_
    refine x_istore (ls' := [(4, .int (-1)), (3, .int (-1)), (0, .ref b), (1, .int (nI f)), (2, .int (nI s))]) dX2_lessBySwap_17 (by decide) rfl ?_
    refine x_aload_n dX2_lessBySwap_19 2 rfl ?_
    refine x_get dX2_lessBySwap_20 fX2_14 (hD.1) rfl ?_
    refine x_iload_n dX2_lessBySwap_23 1 rfl ?_
    refine x_cV (N := mX3_isThing) (d' := 0) (mc := 0) (ms := 0) (cb := 0) (sb := 0) (As := [.int (-1)]) (st := []) dX2_lessBySwap_24 mX3_isThing_v lX2_68 rfl rfl (hD.2.1.1) rfl (by decide) (Nat.le_of_ble_eq_true rfl) (Hall_isThing hD.2.1) rfl (st1 := [.int (bI (inR (-1) (hl 0 4)))]) rfl ?_
    refine x_ifB_eq (tgt := 83) dX2_lessBySwap_27 (by decide) (fun c27 => ?_) (fun c27 => ?_)
    · refine x_pc (pc' := 83) rfl ?_
      refine x_iconst dX2_lessBySwap_83 ki_0 ?_
      exact x_iret dX2_lessBySwap_84 rfl (xRet_e (by unfold lessS; rw [if_pos (Or.inl hm1)]; rfl) rfl)
    · rw [inR_neg (by decide)] at c27
      exact absurd c27 (by decide)
  · refine x_aload_n dX2_lessBySwap_0 0 rfl ?_
    refine x_get dX2_lessBySwap_1 fX2_18 (hD.1) rfl ?_
    refine x_iconst dX2_lessBySwap_4 ki_5 ?_
    refine x_iload_n dX2_lessBySwap_5 1 rfl ?_
    refine x_iaddN dX2_lessBySwap_6 ?_
    refine x_ialdN dX2_lessBySwap_7 (hD.2.2) (by omega) (by decide) ?_
    refine x_topi (y := -1) hm1 ?_
    refine x_istore_n (ls' := [(3, .int (-1)), (0, .ref b), (1, .int (nI f)), (2, .int (nI s))]) dX2_lessBySwap_8 (by decide) rfl ?_
    refine x_aload_n dX2_lessBySwap_9 1 rfl ?_
    refine x_get dX2_lessBySwap_10 fX2_18 (hD.1) rfl ?_
    refine x_pc (pc' := 13) rfl ?_
    refine x_iconst dX2_lessBySwap_13 ki_5 ?_
    refine x_iload_n dX2_lessBySwap_14 3 rfl ?_
    refine x_iaddN dX2_lessBySwap_15 ?_
    refine x_ialdN dX2_lessBySwap_16 (hD.2.2) (by omega) (by decide) ?_
    refine x_topi (y := nI t2) hm2 ?_
    refine x_istore (ls' := [(4, .int (nI t2)), (3, .int (-1)), (0, .ref b), (1, .int (nI f)), (2, .int (nI s))]) dX2_lessBySwap_17 (by decide) rfl ?_
    refine x_aload_n dX2_lessBySwap_19 2 rfl ?_
    refine x_get dX2_lessBySwap_20 fX2_14 (hD.1) rfl ?_
    refine x_iload_n dX2_lessBySwap_23 1 rfl ?_
    refine x_cV (N := mX3_isThing) (d' := 0) (mc := 0) (ms := 0) (cb := 0) (sb := 0) (As := [.int (-1)]) (st := []) dX2_lessBySwap_24 mX3_isThing_v lX2_68 rfl rfl (hD.2.1.1) rfl (by decide) (Nat.le_of_ble_eq_true rfl) (Hall_isThing hD.2.1) rfl (st1 := [.int (bI (inR (-1) (hl 0 4)))]) rfl ?_
    refine x_ifB_eq (tgt := 83) dX2_lessBySwap_27 (by decide) (fun c27 => ?_) (fun c27 => ?_)
    · refine x_pc (pc' := 83) rfl ?_
      refine x_iconst dX2_lessBySwap_83 ki_0 ?_
      exact x_iret dX2_lessBySwap_84 rfl (xRet_e (by unfold lessS; rw [if_pos (Or.inl hm1)]; rfl) rfl)
    · rw [inR_neg (by decide)] at c27
      exact absurd c27 (by decide)
  · refine x_aload_n dX2_lessBySwap_0 0 rfl ?_
    refine x_get dX2_lessBySwap_1 fX2_18 (hD.1) rfl ?_
    refine x_iconst dX2_lessBySwap_4 ki_5 ?_
    refine x_iload_n dX2_lessBySwap_5 1 rfl ?_
    refine x_iaddN dX2_lessBySwap_6 ?_
    refine x_ialdN dX2_lessBySwap_7 (hD.2.2) (by omega) (by decide) ?_
    refine x_topi (y := nI t1) hm1 ?_
    refine x_istore_n (ls' := [(3, .int (nI t1)), (0, .ref b), (1, .int (nI f)), (2, .int (nI s))]) dX2_lessBySwap_8 (by decide) rfl ?_
    refine x_aload_n dX2_lessBySwap_9 1 rfl ?_
    refine x_get dX2_lessBySwap_10 fX2_18 (hD.1) rfl ?_
    refine x_pc (pc' := 13) rfl ?_
    refine x_iconst dX2_lessBySwap_13 ki_5 ?_
    refine x_iload_n dX2_lessBySwap_14 3 rfl ?_
    refine x_iaddN dX2_lessBySwap_15 ?_
    refine x_ialdN dX2_lessBySwap_16 (hD.2.2) (by omega) (by decide) ?_
    refine x_topi (y := -1) hm2 ?_
    refine x_istore (ls' := [(4, .int (-1)), (3, .int (nI t1)), (0, .ref b), (1, .int (nI f)), (2, .int (nI s))]) dX2_lessBySwap_17 (by decide) rfl ?_
    refine x_aload_n dX2_lessBySwap_19 2 rfl ?_
    refine x_get dX2_lessBySwap_20 fX2_14 (hD.1) rfl ?_
    refine x_iload_n dX2_lessBySwap_23 1 rfl ?_
    refine x_cV (N := mX3_isThing) (d' := 0) (mc := 0) (ms := 0) (cb := 0) (sb := 0) (As := [.int (nI t1)]) (st := []) dX2_lessBySwap_24 mX3_isThing_v lX2_68 rfl rfl (hD.2.1.1) rfl (by decide) (Nat.le_of_ble_eq_true rfl) (Hall_isThing hD.2.1) rfl (st1 := [.int (bI (inR (nI t1) (hl 0 4)))]) rfl ?_
    refine x_ifB_eq (tgt := 83) dX2_lessBySwap_27 (by decide) (fun c27 => ?_) (fun c27 => ?_)
    · rw [inR_nI (by omega)] at c27
      exact absurd c27 (by simp; omega)
    · refine x_pc (pc' := 30) rfl ?_
      refine x_aload_n dX2_lessBySwap_30 2 rfl ?_
      refine x_get dX2_lessBySwap_31 fX2_14 (hD.1) rfl ?_
      refine x_iload dX2_lessBySwap_34 0 rfl ?_
      refine x_cV (N := mX3_isThing) (d' := 0) (mc := 0) (ms := 0) (cb := 0) (sb := 0) (As := [.int (-1)]) (st := []) dX2_lessBySwap_36 mX3_isThing_v lX2_68 rfl rfl (hD.2.1.1) rfl (by decide) (Nat.le_of_ble_eq_true rfl) (Hall_isThing hD.2.1) rfl (st1 := [.int (bI (inR (-1) (hl 0 4)))]) rfl ?_
      refine x_ifB_eq (tgt := 83) dX2_lessBySwap_39 (by decide) (fun c39 => ?_) (fun c39 => ?_)
      · refine x_iconst dX2_lessBySwap_83 ki_0 ?_
        exact x_iret dX2_lessBySwap_84 rfl (xRet_e (by unfold lessS; rw [if_pos (Or.inr hm2)]; rfl) rfl)
      · rw [inR_neg (by decide)] at c39
        exact absurd c39 (by decide)
  · refine x_aload_n dX2_lessBySwap_0 0 rfl ?_
    refine x_get dX2_lessBySwap_1 fX2_18 (hD.1) rfl ?_
    refine x_iconst dX2_lessBySwap_4 ki_5 ?_
    refine x_iload_n dX2_lessBySwap_5 1 rfl ?_
    refine x_iaddN dX2_lessBySwap_6 ?_
    refine x_ialdN dX2_lessBySwap_7 (hD.2.2) (by omega) (by decide) ?_
    refine x_topi (y := nI t1) hm1 ?_
    refine x_istore_n (ls' := [(3, .int (nI t1)), (0, .ref b), (1, .int (nI f)), (2, .int (nI s))]) dX2_lessBySwap_8 (by decide) rfl ?_
    refine x_aload_n dX2_lessBySwap_9 1 rfl ?_
    refine x_get dX2_lessBySwap_10 fX2_18 (hD.1) rfl ?_
    refine x_pc (pc' := 13) rfl ?_
    refine x_iconst dX2_lessBySwap_13 ki_5 ?_
    refine x_iload_n dX2_lessBySwap_14 3 rfl ?_
    refine x_iaddN dX2_lessBySwap_15 ?_
    refine x_ialdN dX2_lessBySwap_16 (hD.2.2) (by omega) (by decide) ?_
    refine x_topi (y := nI t2) hm2 ?_
    refine x_istore (ls' := [(4, .int (nI t2)), (3, .int (nI t1)), (0, .ref b), (1, .int (nI f)), (2, .int (nI s))]) dX2_lessBySwap_17 (by decide) rfl ?_
    refine x_aload_n dX2_lessBySwap_19 2 rfl ?_
    refine x_get dX2_lessBySwap_20 fX2_14 (hD.1) rfl ?_
    refine x_iload_n dX2_lessBySwap_23 1 rfl ?_
    refine x_cV (N := mX3_isThing) (d' := 0) (mc := 0) (ms := 0) (cb := 0) (sb := 0) (As := [.int (nI t1)]) (st := []) dX2_lessBySwap_24 mX3_isThing_v lX2_68 rfl rfl (hD.2.1.1) rfl (by decide) (Nat.le_of_ble_eq_true rfl) (Hall_isThing hD.2.1) rfl (st1 := [.int (bI (inR (nI t1) (hl 0 4)))]) rfl ?_
    refine x_ifB_eq (tgt := 83) dX2_lessBySwap_27 (by decide) (fun c27 => ?_) (fun c27 => ?_)
    · rw [inR_nI (by omega)] at c27
      exact absurd c27 (by simp; omega)
    · refine x_pc (pc' := 30) rfl ?_
      refine x_aload_n dX2_lessBySwap_30 2 rfl ?_
      refine x_get dX2_lessBySwap_31 fX2_14 (hD.1) rfl ?_
      refine x_iload dX2_lessBySwap_34 0 rfl ?_
      refine x_cV (N := mX3_isThing) (d' := 0) (mc := 0) (ms := 0) (cb := 0) (sb := 0) (As := [.int (nI t2)]) (st := []) dX2_lessBySwap_36 mX3_isThing_v lX2_68 rfl rfl (hD.2.1.1) rfl (by decide) (Nat.le_of_ble_eq_true rfl) (Hall_isThing hD.2.1) rfl (st1 := [.int (bI (inR (nI t2) (hl 0 4)))]) rfl ?_
      refine x_ifB_eq (tgt := 83) dX2_lessBySwap_39 (by decide) (fun c39 => ?_) (fun c39 => ?_)
      · rw [inR_nI (by omega)] at c39
        exact absurd c39 (by simp; omega)
      · refine x_aload_n dX2_lessBySwap_42 2 rfl ?_
        refine x_get dX2_lessBySwap_43 fX2_14 (hD.1) rfl ?_
        refine x_iload_n dX2_lessBySwap_46 3 rfl ?_
        refine x_aload_n dX2_lessBySwap_47 2 rfl ?_
        refine x_get dX2_lessBySwap_48 fX2_14 (hD.1) rfl ?_
        refine x_pc (pc' := 51) rfl ?_
        refine x_get dX2_lessBySwap_51 fX2_49 (hD.2.1.1) rfl ?_
        refine x_iload dX2_lessBySwap_54 0 rfl ?_
        refine x_ialdN dX2_lessBySwap_56 (hD.2.1.2.2.2.2.1) (by omega) (by decide) ?_
        refine x_cV (N := mX3_skillOf) (d' := 0) (mc := 0) (ms := 0) (cb := 0) (sb := 0) (As := [.int (nI f), .int (nI (hl 4 t2))]) (st := []) dX2_lessBySwap_57 mX3_skillOf_v lX2_52 rfl rfl (hD.2.1.1) rfl (by decide) (Nat.le_of_ble_eq_true rfl) (Hall_skillOf hD.2.1 (by omega) (by have := (o5 _ ht2).1; omega)) rfl (st1 := [.int (nI (hl 3 (f * 4 + hl 4 t2)))]) rfl ?_
        refine x_ifN_eq (tgt := 83) dX2_lessBySwap_60 (by decide) (by have := hB 3 (f * 4 + hl 4 t2); omega) (fun c60 => ?_) (fun c60 => ?_)
        · refine x_iconst dX2_lessBySwap_83 ki_0 ?_
          exact x_iret dX2_lessBySwap_84 rfl (xRet_e (by unfold lessS; rw [if_neg (by rw [hm1, hm2]; exact fun z => z.elim (nI_ne1 (by omega)) (nI_ne1 (by omega))), hm1, hm2, thN_nI (by omega), thN_nI (by omega), if_pos (Or.inl c60)]; rfl) rfl)
        · refine x_aload_n dX2_lessBySwap_63 2 rfl ?_
          refine x_get dX2_lessBySwap_64 fX2_14 (hD.1) rfl ?_
          refine x_iload_n dX2_lessBySwap_67 4 rfl ?_
          refine x_aload_n dX2_lessBySwap_68 2 rfl ?_
          refine x_get dX2_lessBySwap_69 fX2_14 (hD.1) rfl ?_
          refine x_pc (pc' := 72) rfl ?_
          refine x_get dX2_lessBySwap_72 fX2_49 (hD.2.1.1) rfl ?_
          refine x_iload_n dX2_lessBySwap_75 1 rfl ?_
          refine x_ialdN dX2_lessBySwap_76 (hD.2.1.2.2.2.2.1) (by omega) (by decide) ?_
          refine x_cV (N := mX3_skillOf) (d' := 0) (mc := 0) (ms := 0) (cb := 0) (sb := 0) (As := [.int (nI s), .int (nI (hl 4 t1))]) (st := []) dX2_lessBySwap_77 mX3_skillOf_v lX2_52 rfl rfl (hD.2.1.1) rfl (by decide) (Nat.le_of_ble_eq_true rfl) (Hall_skillOf hD.2.1 (by omega) (by have := (o5 _ ht1).1; omega)) rfl (st1 := [.int (nI (hl 3 (s * 4 + hl 4 t1)))]) rfl ?_
          refine x_ifN_ne (tgt := 85) dX2_lessBySwap_80 (by decide) (by have := hB 3 (s * 4 + hl 4 t1); omega) (fun c80 => ?_) (fun c80 => ?_)
          · refine x_aload_n dX2_lessBySwap_85 2 rfl ?_
            refine x_get dX2_lessBySwap_86 fX2_18 (hD.1) rfl ?_
            refine x_bipush dX2_lessBySwap_89 kb_9 ?_
            refine x_iload_n dX2_lessBySwap_91 3 rfl ?_
            refine x_iaddN dX2_lessBySwap_92 ?_
            refine x_pc (pc' := 93) rfl ?_
            refine x_ialdN dX2_lessBySwap_93 (hD.2.2) (by omega) (by decide) ?_
            refine x_aload_n dX2_lessBySwap_94 2 rfl ?_
            refine x_get dX2_lessBySwap_95 fX2_18 (hD.1) rfl ?_
            refine x_bipush dX2_lessBySwap_98 kb_9 ?_
            refine x_iload_n dX2_lessBySwap_100 4 rfl ?_
            refine x_iaddN dX2_lessBySwap_101 ?_
            refine x_ialdN dX2_lessBySwap_102 (hD.2.2) (by omega) (by decide) ?_
            refine x_iadd dX2_lessBySwap_103 ?_
            refine x_aload_n dX2_lessBySwap_104 2 rfl ?_
            refine x_iload_n dX2_lessBySwap_105 3 rfl ?_
            refine x_pc (pc' := 106) rfl ?_
            refine x_iload dX2_lessBySwap_106 0 rfl ?_
            refine x_cV (N := mX2_effort) (d' := 0) (mc := 0) (ms := 0) (cb := 0) (sb := 0) (As := [.int (nI f), .int (nI t2)]) (st := [.int ((r (9 + f)) + (r (9 + s)))]) dX2_lessBySwap_108 mX2_effort_v lX2_65 rfl rfl (hD.1) rfl (by decide) (Nat.le_of_ble_eq_true rfl) (Day_effort hD (by omega) (by omega) (by have := (o5 _ ht2).1; omega)) rfl (st1 := [.int (nI (effS hl f t2)), .int ((r (9 + f)) + (r (9 + s)))]) rfl ?_
            refine x_isub dX2_lessBySwap_111 ?_
            refine x_aload_n dX2_lessBySwap_112 2 rfl ?_
            refine x_iload_n dX2_lessBySwap_113 4 rfl ?_
            refine x_iload_n dX2_lessBySwap_114 1 rfl ?_
            refine x_cV (N := mX2_effort) (d' := 0) (mc := 0) (ms := 0) (cb := 0) (sb := 0) (As := [.int (nI s), .int (nI t1)]) (st := [.int (((r (9 + f)) + (r (9 + s))) - (nI (effS hl f t2)))]) dX2_lessBySwap_115 mX2_effort_v lX2_65 rfl rfl (hD.1) rfl (by decide) (Nat.le_of_ble_eq_true rfl) (Day_effort hD (by omega) (by omega) (by have := (o5 _ ht1).1; omega)) rfl (st1 := [.int (nI (effS hl s t1)), .int (((r (9 + f)) + (r (9 + s))) - (nI (effS hl f t2)))]) rfl ?_
            refine x_isub dX2_lessBySwap_118 ?_
            exact x_iret dX2_lessBySwap_119 rfl (xRet_e (by unfold lessS; rw [if_neg (by rw [hm1, hm2]; exact fun z => z.elim (nI_ne1 (by omega)) (nI_ne1 (by omega))), hm1, hm2, thN_nI (by omega), thN_nI (by omega), if_neg (fun z => z.elim c60 c80)]) rfl)
          · refine x_iconst dX2_lessBySwap_83 ki_0 ?_
            exact x_iret dX2_lessBySwap_84 rfl (xRet_e (by unfold lessS; rw [if_neg (by rw [hm1, hm2]; exact fun z => z.elim (nI_ne1 (by omega)) (nI_ne1 (by omega))), hm1, hm2, thN_nI (by omega), thN_nI (by omega), if_pos (Or.inr c80)]; rfl) rfl)
def rngF (f : Nat → Int32) (v : Int32) (a n : Nat) : Nat → Int32 := fun j => if a ≤ j ∧ j < a + n then v else f j
theorem rngF_0 (f : Nat → Int32) (v : Int32) (a : Nat) : rngF f v a 0 = f := by funext j; simp only [rngF]; rw [if_neg (by omega)]
theorem rngF_s (f : Nat → Int32) (v : Int32) (a n : Nat) : upd (rngF f v a n) (a + n) v = rngF f v a (n + 1) := by
  funext j
  simp only [upd, rngF]
  by_cases h : j = a + n
  · rw [if_pos h, if_pos (by omega)]
  · rw [if_neg h]
    by_cases h2 : a ≤ j ∧ j < a + n
    · rw [if_pos h2, if_pos (by omega)]
    · rw [if_neg h2, if_neg (by omega)]
def clearR (hl : xHl) : xRw := rngF (rngF (va_cpy (nF (hl 2)) (fun _ => nI 0) 0 1 4) (-1) 5 4) (-1) 28 7
theorem Day_clear_l2 {K : xG} {h b jd : Nat} {G : xHp} {hl : xHl} {r : xRw} {ru : Option Nat} (hD : DayAt G b hl r jd ru) : ∀ (k q : Nat), q + k = 7 → xV K mX2_clear 1 0 0 h (xup G (b + 9) (eI 0 35 (rngF (rngF (va_cpy (nF (hl 2)) (fun _ => nI 0) 0 1 4) (-1) 5 4) (-1) 28 q))) 49 [(1, .int (nI q)), (0, .ref b)] [] (xRet none h (xup G (b + 9) (eI 0 35 (clearR hl)))) := by
  intro k
  induction k with
  | zero =>
    intro q hv
    have hv0 : q = 7 := by omega
    subst hv0
    refine x_iload_n dX2_clear_49 0 rfl ?_
    refine x_bipush dX2_clear_50 kb_7 ?_
    refine x_icmpN_ge (tgt := 71) dX2_clear_52 (by decide) (by omega) (by omega) (fun c52 => ?_) (fun c52 => ?_)
    · exact x_vret dX2_clear_71 rfl (xRet_i)
    · exact absurd c52 (by omega)
  | succ k ih =>
    intro q hv
    refine x_iload_n dX2_clear_49 0 rfl ?_
    refine x_bipush dX2_clear_50 kb_7 ?_
    refine x_icmpN_ge (tgt := 71) dX2_clear_52 (by decide) (by omega) (by omega) (fun c52 => ?_) (fun c52 => ?_)
    · exact absurd c52 (by omega)
    · refine x_aload_n dX2_clear_55 1 rfl ?_
      refine x_get dX2_clear_56 fX2_18 (xup_of (by omega) (hD.1)) rfl ?_
      refine x_bipush dX2_clear_59 kb_28 ?_
      refine x_iload_n dX2_clear_61 0 rfl ?_
      refine x_iaddN dX2_clear_62 ?_
      refine x_iconst dX2_clear_63 ki_m1 ?_
      refine x_pc (pc' := 64) rfl ?_
      refine x_iastN dX2_clear_64 (xup_eq) (by omega) (by decide) ?_
      refine x_geq xup_up ?_
      refine x_iinc (v := nI (q + 1)) (ls' := [(1, .int (nI (q + 1))), (0, .ref b)]) dX2_clear_65 0 rfl (nIs _) (by decide) rfl ?_
      refine x_goto (tgt := 49) dX2_clear_68 (by decide) ?_
      rw [rngF_s]
      exact ih (q + 1) (by omega)
theorem Day_clear_l1 {K : xG} {h b jd : Nat} {G : xHp} {hl : xHl} {r : xRw} {ru : Option Nat} (hD : DayAt G b hl r jd ru) : ∀ (k q : Nat), q + k = 4 → xV K mX2_clear 1 0 0 h (xup G (b + 9) (eI 0 35 (rngF (va_cpy (nF (hl 2)) (fun _ => nI 0) 0 1 4) (-1) 5 q))) 27 [(1, .int (nI q)), (0, .ref b)] [] (xRet none h (xup G (b + 9) (eI 0 35 (clearR hl)))) := by
  intro k
  induction k with
  | zero =>
    intro q hv
    have hv0 : q = 4 := by omega
    subst hv0
    refine x_iload_n dX2_clear_27 0 rfl ?_
    refine x_iconst dX2_clear_28 ki_4 ?_
    refine x_icmpN_ge (tgt := 47) dX2_clear_29 (by decide) (by omega) (by omega) (fun c29 => ?_) (fun c29 => ?_)
    · refine x_iconst dX2_clear_47 ki_0 ?_
      refine x_istore_n (ls' := [(1, .int (nI 0)), (0, .ref b)]) dX2_clear_48 (by decide) rfl ?_
      refine x_geq (congrArg (fun f => xup G (b + 9) (eI 0 35 f)) (rngF_0 (rngF (va_cpy (nF (hl 2)) (fun _ => nI 0) 0 1 4) (-1) 5 4) (-1) 28).symm) ?_
      exact Day_clear_l2 hD 7 0 (by omega)
    · exact absurd c29 (by omega)
  | succ k ih =>
    intro q hv
    refine x_iload_n dX2_clear_27 0 rfl ?_
    refine x_iconst dX2_clear_28 ki_4 ?_
    refine x_icmpN_ge (tgt := 47) dX2_clear_29 (by decide) (by omega) (by omega) (fun c29 => ?_) (fun c29 => ?_)
    · exact absurd c29 (by omega)
    · refine x_aload_n dX2_clear_32 1 rfl ?_
      refine x_get dX2_clear_33 fX2_18 (xup_of (by omega) (hD.1)) rfl ?_
      refine x_iconst dX2_clear_36 ki_5 ?_
      refine x_iload_n dX2_clear_37 0 rfl ?_
      refine x_iaddN dX2_clear_38 ?_
      refine x_iconst dX2_clear_39 ki_m1 ?_
      refine x_pc (pc' := 40) rfl ?_
      refine x_iastN dX2_clear_40 (xup_eq) (by omega) (by decide) ?_
      refine x_geq xup_up ?_
      refine x_iinc (v := nI (q + 1)) (ls' := [(1, .int (nI (q + 1))), (0, .ref b)]) dX2_clear_41 0 rfl (nIs _) (by decide) rfl ?_
      refine x_goto (tgt := 27) dX2_clear_44 (by decide) ?_
      rw [rngF_s]
      exact ih (q + 1) (by omega)
theorem Day_clear {K : xG} {h b jd : Nat} {G : xHp} {hl : xHl} {r : xRw} {ru : Option Nat} (hD : DayAt G b hl r jd ru) : xCall K mX2_clear 1 0 0 [.ref b] h G (xRet none h (xup G (b + 9) (eI 0 35 (clearR hl)))) := by
  refine x_entry (by decide) (ls := [(0, .ref b)]) rfl (Nat.le_of_ble_eq_true rfl) ?_
  refine x_aload_n dX2_clear_0 0 rfl ?_
  refine x_get dX2_clear_1 fX2_18 (hD.1) rfl ?_
  refine x_iconst dX2_clear_4 ki_0 ?_
  refine x_cS (N := mJ7_fill_53178) (d' := 0) (mc := 0) (ms := 0) (cb := 0) (sb := 0) (As := [.ref (b + 9), .int (nI 0)]) (st := []) dX2_clear_5 mJ7_fill_53178_s lX2_26 rfl (by decide) (Nat.le_of_ble_eq_true rfl) (Arr_fill (by decide) hD.2.2) rfl (st1 := []) rfl ?_
  refine x_aload_n dX2_clear_8 0 rfl ?_
  refine x_get dX2_clear_9 fX2_14 (xup_of (by omega) (hD.1)) rfl ?_
  refine x_get dX2_clear_12 fX2_32 (xup_of (by omega) (hD.2.1.1)) rfl ?_
  refine x_iconst dX2_clear_15 ki_0 ?_
  refine x_aload_n dX2_clear_16 0 rfl ?_
  refine x_pc (pc' := 17) rfl ?_
  refine x_get dX2_clear_17 fX2_18 (xup_of (by omega) (hD.1)) rfl ?_
  refine x_iconst dX2_clear_20 ki_1 ?_
  refine x_iconst dX2_clear_21 ki_4 ?_
  refine x_copyN dX2_clear_22 lX2_35 (xup_of (by omega) (hD.2.1.2.2.1)) (xup_eq) (by omega) (by omega) (by decide) (by decide) xw_nat xw_nst xw_sys (by decide) (Nat.le_of_ble_eq_true rfl) ?_
  refine x_geq xup_up ?_
  refine x_iconst dX2_clear_25 ki_0 ?_
  refine x_istore_n (ls' := [(1, .int (nI 0)), (0, .ref b)]) dX2_clear_26 (by decide) rfl ?_
  refine x_geq (congrArg (fun f => xup G (b + 9) (eI 0 35 f)) (rngF_0 (va_cpy (nF (hl 2)) (fun _ => nI 0) 0 1 4) (-1) 5).symm) ?_
  exact Day_clear_l1 hD 4 0 (by omega)
abbrev dayQ (G : xHp) (h b : Nat) (hl : xHl) (r : xRw) (jd : Nat) (ru : Option Nat) : xPost := xEx (fun G' => DayAt G' b hl r jd ru ∧ Fr G G' b 10) (fun _ => none) (fun _ => h) (fun G' => G')
theorem Day_copy {K : xG} {h b jd : Nat} {G : xHp} {hl : xHl} {r : xRw} {ru : Option Nat} {c jk : Nat} {hk : xHl} {rk : xRw} {rc : Option Nat} (hD : DayAt G b hl r jd ru) (hC : DayAt G c hk rk jk rc) (hne : c + 10 ≤ b ∨ b + 10 ≤ c) : xCall K mX2_copy 2 0 0 [.ref b, .ref c] h G (dayQ G h b hk rk jd rc) := by
  refine x_entry (by decide) (ls := [(0, .ref b), (1, .ref c)]) rfl (Nat.le_of_ble_eq_true rfl) ?_
  refine x_aload_n dX2_copy_0 0 rfl ?_
  refine x_get dX2_copy_1 fX2_14 (hD.1) rfl ?_
  refine x_aload_n dX2_copy_4 1 rfl ?_
  refine x_get dX2_copy_5 fX2_14 (hC.1) rfl ?_
  refine x_cVe (N := mX3_copy) (d' := 1) (mc := 0) (ms := 0) (cb := 0) (sb := 0) (As := [.ref (c + 1)]) (st := []) dX2_copy_8 mX3_copy_v lX2_41 rfl rfl (hD.2.1.1) rfl (by decide) (Nat.le_of_ble_eq_true rfl) (Hall_copy hD.2.1 hC.2.1 (by omega)) rfl (sf := fun G1 => []) (fun _ => rfl) (fun G1 hp1 => ?_)
  obtain ⟨hH1, hF1⟩ := hp1
  have hD0 : G1 b = some (eO 2 [.ref (b + 1), .ref (b + 9), .ref jd, va_rf ru]) := (hF1 b (by omega)).trans hD.1
  have hD9 : G1 (b + 9) = some (eI 0 35 r) := (hF1 (b + 9) (by omega)).trans hD.2.2
  have hC0 : G1 c = some (eO 2 [.ref (c + 1), .ref (c + 9), .ref jk, va_rf rc]) := (hF1 c (by omega)).trans hC.1
  have hC9 : G1 (c + 9) = some (eI 0 35 rk) := (hF1 (c + 9) (by omega)).trans hC.2.2
  refine x_aload_n dX2_copy_11 1 rfl ?_
  refine x_get dX2_copy_12 fX2_18 (hC0) rfl ?_
  refine x_iconst dX2_copy_15 ki_0 ?_
  refine x_aload_n dX2_copy_16 0 rfl ?_
  refine x_pc (pc' := 17) rfl ?_
  refine x_get dX2_copy_17 fX2_18 (hD0) rfl ?_
  refine x_iconst dX2_copy_20 ki_0 ?_
  refine x_bipush dX2_copy_21 kb_35 ?_
  refine x_copyF dX2_copy_23 lX2_35 (hC9) (hD9) (by decide) xw_nat xw_nst xw_sys (by decide) (Nat.le_of_ble_eq_true rfl) ?_
  refine x_aload_n dX2_copy_26 0 rfl ?_
  refine x_aload_n dX2_copy_27 1 rfl ?_
  refine x_get dX2_copy_28 fX2_45 (xup_of (by omega) (hC0)) rfl ?_
  refine x_put (fs' := [.ref (b + 1), .ref (b + 9), .ref jd, va_rf rc]) dX2_copy_31 fX2_45 (xup_of (by omega) (hD0)) (Nat.le_of_ble_eq_true rfl) rfl (rf_nar _) (rf_fit _) ?_
  exact x_vret dX2_copy_34 rfl (xEx_i (xup (xup G1 (b + 9) (eI 0 35 rk)) b (eO 2 [.ref (b + 1), .ref (b + 9), .ref jd, va_rf rc])) ⟨⟨xup_eq, hH1.fr (fun a h1 h2 => by rw [xup_ne (by omega), xup_ne (by omega)]), xup_of (by omega) xup_eq⟩, (Fr.wide hF1 (by omega) (by omega)).tr ((Fr.up (by omega) (by omega)).up1 (by omega) (by omega))⟩ rfl rfl rfl)
theorem Day_init {K : xG} {b j : Nat} {G : xHp} (hb : G b = some (eO 2 [.null, .null, .null, .null])) : xCall K mX2_init 2 9 99 [.ref b, .ref j] (b + 1) G (xEx (fun G' => DayAt G' b (fun _ _ => 0) (fun _ => 0) j none ∧ Fr G G' b 10) (fun _ => none) (fun _ => b + 10) (fun G' => G')) := by
  refine x_entry (by decide) (ls := [(0, .ref b), (1, .ref j)]) rfl (Nat.le_of_ble_eq_true rfl) ?_
  refine x_aload_n dX2_init_0 0 rfl ?_
  refine x_objInit dX2_init_1 lX2_5 xw_objI xw_objC (by decide) (Nat.le_of_ble_eq_true rfl) ?_
  refine x_aload_n dX2_init_4 0 rfl ?_
  refine x_new (cb := 8) (sb := 87) (fs := [.int 0, .int 0, .int 0, .int 0, .int 0, .null, .null, .null, .null, .null, .null, .null]) dX2_init_5 xcl_X3 kX2_11 xin_X3 xii_X3 xdf_X3 ?_
  refine x_hh (h' := b + 2) rfl ?_
  refine x_dup dX2_init_8 rfl ?_
  refine x_cINe (N := mX3_init) (d' := 1) (mc := 7) (ms := 52) (cb := 1) (sb := 35) (As := []) (st := [.ref (b + 1), .ref b]) dX2_init_9 mX3_init_i lX2_13 rfl (by decide) (Nat.le_of_ble_eq_true rfl) (Hall_init xup_eq) rfl (sf := fun G1 => [.ref (b + 1), .ref b]) (fun _ => rfl) (fun G1 hp1 => ?_)
  obtain ⟨hH1, hF1⟩ := hp1
  have hb1 : G1 b = some (eO 2 [.null, .null, .null, .null]) := (hF1 b (by omega)).trans (xup_of (by omega) hb)
  refine x_hh (h' := b + 9) rfl ?_
  refine x_putF (fs' := [.ref (b + 1), .null, .null, .null]) dX2_init_12 fX2_14 rfl rfl (hb1) (Nat.le_of_ble_eq_true rfl) rfl rfl rfl ?_
  refine x_aload_n dX2_init_15 0 rfl ?_
  refine x_bipush dX2_init_16 kb_35 ?_
  refine x_pc (pc' := 18) rfl ?_
  refine x_newa (cb := 0) (sb := 0) (t := 0) (N0 := 35) dX2_init_18 rfl xac_int (fun _ => rfl) (fun _ _ => rfl) rfl (by decide) (by decide) (by decide) ?_
  refine x_hh (h' := b + 10) rfl ?_
  refine x_putF (fs' := [.ref (b + 1), .ref (b + 9), .null, .null]) dX2_init_20 fX2_18 rfl rfl (xup_of (by omega) (xup_eq)) (Nat.le_of_ble_eq_true rfl) rfl rfl rfl ?_
  refine x_geq (xup_dig (by omega)) ?_
  refine x_aload_n dX2_init_23 0 rfl ?_
  refine x_aload_n dX2_init_24 1 rfl ?_
  refine x_putF (fs' := [.ref (b + 1), .ref (b + 9), .ref j, .null]) dX2_init_25 fX2_22 rfl rfl (xup_of (by omega) (xup_eq)) (Nat.le_of_ble_eq_true rfl) rfl rfl rfl ?_
  refine x_geq (xup_dig (by omega)) ?_
  exact x_vret dX2_init_28 rfl (xEx_i (xup (xup G1 b (eO 2 [.ref (b + 1), .ref (b + 9), .ref j, .null])) (b + 9) (eI 0 35 (fun _ => 0))) ⟨⟨xup_of (by omega) (xup_eq), hH1.fr (fun a h1 h2 => by rw [xup_ne (by omega), xup_ne (by omega)]), xup_eq⟩, fun a ha => by rw [xup_ne (by omega), xup_ne (by omega), hF1 a (by omega), xup_ne (by omega)]⟩ rfl rfl rfl)
