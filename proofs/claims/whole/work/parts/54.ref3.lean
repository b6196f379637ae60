theorem Md_wanted_loop {K : xG} {h y : Nat} {G0 : xHp} {hl : xHl} {r : xRw} {sc : Nat × Nat × Int32} {A : Nat → Nat → Int32} {F : Nat → Int32} {wa : Nat → Int64} {w : Nat} {cs0 : List (List Nat × List Nat)} {V : Int64} (hR : RefR A w cs0) : ∀ (cs : List (List Nat × List Nat)) (n e : Nat) (sk : Nat → Int64) (G1 : xHp), n + cs.length = cs0.length → e ≤ (flatE cs0).length → (flatE cs0).drop e = flatE cs → RefC A w n e cs → (∀ c, c ∈ cs → WfC wa c) → wantF wa cs = V → MW G0 G1 y hl r sc A F wa sk → xV K mX12_wanted 3 0 0 h G1 13 [(2, .int (nI (12 * w + n))), (0, .ref y), (1, .int (nI w))] [] (xEx (fun e : (Nat → Int64) × xHp => MW G0 e.2 y hl r sc A F wa e.1) (fun _ => some (.long V)) (fun _ => h) (fun e => e.2)) := by
  obtain ⟨hw6, hc12, hcl, hE, -⟩ := hR
  have hE3 := hE.1
  intro cs
  induction cs with
  | nil =>
    intro n e sk G1 hn he hd hC hwf hV hM1
    simp only [List.length_nil] at hn
    refine x_iload_n dX12_wanted_13 0 rfl ?_
    refine x_bipush dX12_wanted_14 kb_12 ?_
    refine x_iload_n dX12_wanted_16 2 rfl ?_
    refine x_imulN dX12_wanted_17 ?_
    refine x_aload_n dX12_wanted_18 1 rfl ?_
    refine x_get (v := .ref (y + 30)) dX12_wanted_19 fX12_102 (hM1.1) rfl ?_
    refine x_iload_n dX12_wanted_22 2 rfl ?_
    refine x_ialdN (n := 6) (f := A 30) dX12_wanted_23 (hM1.c30) (by omega) (by decide) ?_
    refine x_topi (y := nI cs0.length) (hcl) ?_
    refine x_iaddN dX12_wanted_24 ?_
    refine x_pc (pc' := 25) rfl ?_
    refine x_icmpN_ge (tgt := 89) dX12_wanted_25 (by decide) (by omega) (by omega) (fun c25 => ?_) (fun c25 => ?_)
    · refine x_lconst (v := 0) dX12_wanted_89 rfl ?_
      exact x_lret dX12_wanted_90 rfl (xEx_i (sk, G1) hM1 (by rw [← hV]; rfl) rfl rfl)
    · exact absurd c25 (by omega)
  | cons c cs ih =>
    intro n e sk G1 hn he hd hC hwf hV hM1
    simp only [List.length_cons] at hn
    obtain ⟨r1, r2, r3, r4⟩ := hC
    obtain ⟨⟨v1, hv1⟩, hv2⟩ := hwf c (List.mem_cons_self)
    obtain ⟨g1, g2, g3, g4⟩ := (seg_cl (a := c.1) (b := c.2) (rest := flatE cs) hd).resolve_right (fun q => absurd q.1 (by omega))
    refine x_iload_n dX12_wanted_13 0 rfl ?_
    refine x_bipush dX12_wanted_14 kb_12 ?_
    refine x_iload_n dX12_wanted_16 2 rfl ?_
    refine x_imulN dX12_wanted_17 ?_
    refine x_aload_n dX12_wanted_18 1 rfl ?_
    refine x_get (v := .ref (y + 30)) dX12_wanted_19 fX12_102 (hM1.1) rfl ?_
    refine x_iload_n dX12_wanted_22 2 rfl ?_
    refine x_ialdN (n := 6) (f := A 30) dX12_wanted_23 (hM1.c30) (by omega) (by decide) ?_
    refine x_topi (y := nI cs0.length) (hcl) ?_
    refine x_iaddN dX12_wanted_24 ?_
    refine x_pc (pc' := 25) rfl ?_
    refine x_icmpN_ge (tgt := 89) dX12_wanted_25 (by decide) (by omega) (by omega) (fun c25 => ?_) (fun c25 => ?_)
    · exact absurd c25 (by omega)
    · refine x_aload_n dX12_wanted_28 1 rfl ?_
      refine x_get (v := .ref (y + 32)) dX12_wanted_29 fX12_108 (hM1.1) rfl ?_
      refine x_iload_n dX12_wanted_32 0 rfl ?_
      refine x_ialdN (n := 72) (f := A 32) dX12_wanted_33 (hM1.c32) (by omega) (by decide) ?_
      refine x_topi (y := nI (e + c.1.length)) (r2) ?_
      refine x_aload_n dX12_wanted_34 1 rfl ?_
      refine x_get (v := .ref (y + 33)) dX12_wanted_35 fX12_111 (hM1.1) rfl ?_
      refine x_iload_n dX12_wanted_38 0 rfl ?_
      refine x_ialdN (n := 72) (f := A 33) dX12_wanted_39 (hM1.c33) (by omega) (by decide) ?_
      refine x_topi (y := nI (e + c.1.length + c.2.length)) (r3) ?_
      refine x_icmpN_eq (tgt := 65) dX12_wanted_40 (by decide) (by omega) (by omega) (fun c40 => ?_) (fun c40 => ?_)
      · refine x_pc (pc' := 65) rfl ?_
        refine x_aload_n dX12_wanted_65 1 rfl ?_
        refine x_iload_n dX12_wanted_66 2 rfl ?_
        refine x_aload_n dX12_wanted_67 1 rfl ?_
        refine x_get (v := .ref (y + 31)) dX12_wanted_68 fX12_105 (hM1.1) rfl ?_
        refine x_iload_n dX12_wanted_71 0 rfl ?_
        refine x_ialdN (n := 72) (f := A 31) dX12_wanted_72 (hM1.c31) (by omega) (by decide) ?_
        refine x_topi (y := nI e) (r1) ?_
        refine x_aload_n dX12_wanted_73 1 rfl ?_
        refine x_get (v := .ref (y + 32)) dX12_wanted_74 fX12_108 (hM1.1) rfl ?_
        refine x_iload_n dX12_wanted_77 0 rfl ?_
        refine x_ialdN (n := 72) (f := A 32) dX12_wanted_78 (hM1.c32) (by omega) (by decide) ?_
        refine x_topi (y := nI (e + c.1.length)) (r2) ?_
        refine x_pc (pc' := 79) rfl ?_
        refine x_cVe (N := mX12_answer) (d' := 2) (mc := 0) (ms := 0) (cb := 0) (sb := 0) (As := [.int (nI w), .int (nI e), .int (nI (e + c.1.length))]) (st := []) dX12_wanted_79 mX12_answer_v lX12_348 rfl rfl (hM1.1) rfl (by decide) (Nat.le_of_ble_eq_true rfl) (Md_answer hM1 hE hw6 (by omega) (by omega) (g1.symm ▸ hv1)) rfl (sf := fun e1 => [.long v1]) (fun _ => rfl) (fun e1 hq1 => ?_)
        obtain ⟨sk1, H1⟩ := e1
        have hN1 : MW G0 H1 y hl r sc A F wa sk1 := hq1
        exact x_lret dX12_wanted_82 rfl (xEx_i (_, _) hN1 (by rw [← hV, want_y (Or.inl (List.eq_nil_of_length_eq_zero (by omega))), hv1]; rfl) rfl rfl)
      · have hne : ¬ c.2 = [] := fun q => c40 (by rw [q]; rfl)
        obtain ⟨v2, hv3, hv4⟩ := hv2.resolve_left hne
        refine x_pc (pc' := 43) rfl ?_
        refine x_aload_n dX12_wanted_43 1 rfl ?_
        refine x_iload_n dX12_wanted_44 2 rfl ?_
        refine x_aload_n dX12_wanted_45 1 rfl ?_
        refine x_get (v := .ref (y + 32)) dX12_wanted_46 fX12_108 (hM1.1) rfl ?_
        refine x_iload_n dX12_wanted_49 0 rfl ?_
        refine x_ialdN (n := 72) (f := A 32) dX12_wanted_50 (hM1.c32) (by omega) (by decide) ?_
        refine x_topi (y := nI (e + c.1.length)) (r2) ?_
        refine x_aload_n dX12_wanted_51 1 rfl ?_
        refine x_get (v := .ref (y + 33)) dX12_wanted_52 fX12_111 (hM1.1) rfl ?_
        refine x_iload_n dX12_wanted_55 0 rfl ?_
        refine x_ialdN (n := 72) (f := A 33) dX12_wanted_56 (hM1.c33) (by omega) (by decide) ?_
        refine x_topi (y := nI (e + c.1.length + c.2.length)) (r3) ?_
        refine x_pc (pc' := 57) rfl ?_
        refine x_cVe (N := mX12_answer) (d' := 2) (mc := 0) (ms := 0) (cb := 0) (sb := 0) (As := [.int (nI w), .int (nI (e + c.1.length)), .int (nI (e + c.1.length + c.2.length))]) (st := []) dX12_wanted_57 mX12_answer_v lX12_348 rfl rfl (hM1.1) rfl (by decide) (Nat.le_of_ble_eq_true rfl) (Md_answer hM1 hE hw6 g4 (by omega) (g2.symm ▸ hv3)) rfl (sf := fun e2 => [.long v2]) (fun _ => rfl) (fun e2 hq2 => ?_)
        obtain ⟨sk2, H2⟩ := e2
        have hN2 : MW G0 H2 y hl r sc A F wa sk2 := hq2
        refine x_lconst (v := 1) dX12_wanted_60 rfl ?_
        refine x_lcmp dX12_wanted_61 ?_
        refine x_if_ne (tgt := 83) dX12_wanted_62 (by decide) (fun c62 => ?_) (fun c62 => ?_)
        · refine x_iinc (v := nI (12 * w + n + 1)) (ls' := [(2, .int (nI (12 * w + n + 1))), (0, .ref y), (1, .int (nI w))]) dX12_wanted_83 0 rfl (nIs _) (by decide) rfl ?_
          refine x_goto (tgt := 13) dX12_wanted_86 (by decide) ?_
          exact ih (n + 1) _ _ _ (by omega) g4 g3 r4 (fun c' hc' => hwf c' (List.mem_cons_of_mem _ hc')) (by rw [← hV, want_n (fun q => q.elim hne (fun u => c62 ((lg_cmp_eq _ _).mpr (by rw [hv3] at u; exact u))))]) hN2
        · refine x_aload_n dX12_wanted_65 1 rfl ?_
          refine x_iload_n dX12_wanted_66 2 rfl ?_
          refine x_aload_n dX12_wanted_67 1 rfl ?_
          refine x_get (v := .ref (y + 31)) dX12_wanted_68 fX12_105 (hN2.1) rfl ?_
          refine x_iload_n dX12_wanted_71 0 rfl ?_
          refine x_ialdN (n := 72) (f := A 31) dX12_wanted_72 (hN2.c31) (by omega) (by decide) ?_
          refine x_topi (y := nI e) (r1) ?_
          refine x_pc (pc' := 73) rfl ?_
          refine x_aload_n dX12_wanted_73 1 rfl ?_
          refine x_get (v := .ref (y + 32)) dX12_wanted_74 fX12_108 (hN2.1) rfl ?_
          refine x_iload_n dX12_wanted_77 0 rfl ?_
          refine x_ialdN (n := 72) (f := A 32) dX12_wanted_78 (hN2.c32) (by omega) (by decide) ?_
          refine x_topi (y := nI (e + c.1.length)) (r2) ?_
          refine x_cVe (N := mX12_answer) (d' := 2) (mc := 0) (ms := 0) (cb := 0) (sb := 0) (As := [.int (nI w), .int (nI e), .int (nI (e + c.1.length))]) (st := []) dX12_wanted_79 mX12_answer_v lX12_348 rfl rfl (hN2.1) rfl (by decide) (Nat.le_of_ble_eq_true rfl) (Md_answer hN2 hE hw6 (by omega) (by omega) (g1.symm ▸ hv1)) rfl (sf := fun e3 => [.long v1]) (fun _ => rfl) (fun e3 hq3 => ?_)
          obtain ⟨sk3, H3⟩ := e3
          have hN3 : MW G0 H3 y hl r sc A F wa sk3 := hq3
          exact x_lret dX12_wanted_82 rfl (xEx_i (_, _) hN3 (by rw [← hV, want_y (Or.inr (by rw [hv3]; exact (lg_cmp_eq _ _).mp c62)), hv1]; rfl) rfl rfl)
theorem Md_wanted {K : xG} {h y : Nat} {G0 G : xHp} {hl : xHl} {r : xRw} {sc : Nat × Nat × Int32} {A : Nat → Nat → Int32} {F : Nat → Int32} {wa sa : Nat → Int64} {w : Nat} {cs0 : List (List Nat × List Nat)} (hR : RefR A w cs0) (hM : MW G0 G y hl r sc A F wa sa) (hfo : sc.2.2 = nI w) (hwf : ∀ c, c ∈ cs0 → WfC wa c) : xCall K mX12_wanted 3 0 0 [.ref y] h G (xEx (fun e : (Nat → Int64) × xHp => MW G0 e.2 y hl r sc A F wa e.1) (fun _ => some (.long (wantF wa cs0))) (fun _ => h) (fun e => e.2)) := by
  refine x_entry (by decide) (ls := [(0, .ref y)]) rfl (Nat.le_of_ble_eq_true rfl) ?_
  refine x_aload_n dX12_wanted_0 0 rfl ?_
  refine x_get (v := .ref (y + 1)) dX12_wanted_1 fX12_9 (hM.1) rfl ?_
  refine x_bipush dX12_wanted_4 kb_8 ?_
  refine x_ialdN (n := 9) (f := scal hl r sc) dX12_wanted_6 (hM.c1) (by decide) (by decide) ?_
  refine x_topi (y := sc.2.2) rfl ?_
  refine x_topi (y := nI w) hfo ?_
  refine x_istore_n (ls' := [(1, .int (nI w)), (0, .ref y)]) dX12_wanted_7 (by decide) rfl ?_
  refine x_bipush dX12_wanted_8 kb_12 ?_
  refine x_iload_n dX12_wanted_10 0 rfl ?_
  refine x_imulN dX12_wanted_11 ?_
  refine x_istore_n (ls' := [(2, .int (nI (12 * w))), (1, .int (nI w)), (0, .ref y)]) dX12_wanted_12 (by decide) rfl ?_
  refine x_perm (ls' := [(2, .int (nI (12 * w))), (0, .ref y), (1, .int (nI w))]) [0, 2, 1] rfl ?_
  exact Md_wanted_loop hR cs0 0 0 sa G (by omega) (by omega) rfl hR.2.2.2.2 hwf rfl hM
theorem Md_sumOf_l2 {K : xG} {h y : Nat} {G0 G : xHp} {hl : xHl} {r : xRw} {sc : Nat × Nat × Int32} {A : Nat → Nat → Int32} {F : Nat → Int32} {wa sa : Nat → Int64} {w q t : Nat} {cs0 : List (List Nat × List Nat)} (hM : MW G0 G y hl r sc A F wa sa) (hR : RefR A w cs0) (hfo : sc.2.2 = nI w) (hwf : ∀ (wd : Nat → Int64) c, c ∈ cs0 → WfC wd c) (hO : HallOk hl) (hq : q < 4) (hq3 : q < hl 0 3) (ht : t < hl 0 4) (hc : canT hl r q t = true) : ∀ (i k : Nat), k + i = hl 0 2 → xV K mX12_sumOf 4 0 0 h G 47 [(5, .int (nI k)), (4, .int (nI (cntF (fun s => decide (0 < hl 3 (q * 4 + s))) k))), (3, .int (nI (cntF (fun q => decide (r (5 + q) = -1)) (hl 0 3)))), (0, .ref y), (1, .int (nI q)), (2, .int (nI t))] [] (mdX G0 h y (some (.long (wantF (wordOf hl r q t) cs0))) hl r sc A F) := by
  have hB := hM.hB
  obtain ⟨o2, o3, o4, o5, o6, o7, o8, o9⟩ := id hO
  have o5t := o5 t ht
  obtain ⟨hc1, hc2, hc3⟩ := of_decide_eq_true hc
  have hcf := cntF_le (fun q => decide (r (5 + q) = -1)) (hl 0 3)
  intro i
  induction i with
  | zero =>
    intro k hk
    have hk0 : k = hl 0 2 := by omega
    subst hk0
    refine x_iload dX12_sumOf_47 0 rfl ?_
    refine x_aload_n dX12_sumOf_49 3 rfl ?_
    refine x_get (v := .ref (y + 1)) dX12_sumOf_50 fX12_9 (hM.1) rfl ?_
    refine x_iconst dX12_sumOf_53 ki_2 ?_
    refine x_ialdN (n := 9) (f := scal hl r sc) dX12_sumOf_54 (hM.c1) (by decide) (by decide) ?_
    refine x_topi (y := nI (hl 0 2)) rfl ?_
    refine x_icmpN_ge (tgt := 89) dX12_sumOf_55 (by decide) (by omega) (by omega) (fun c55 => ?_) (fun c55 => ?_)
    · have hMw : MW G0 G y hl r sc A F (wP hl r q t wa 0) sa := by rw [wP_0]; exact hM
      refine x_aload_n dX12_sumOf_89 3 rfl ?_
      refine x_get (v := .ref (y + 35)) dX12_sumOf_90 fX12_117 (hMw.1) rfl ?_
      refine x_iconst dX12_sumOf_93 ki_0 ?_
      refine x_pc (pc' := 94) rfl ?_
      refine x_iload_n dX12_sumOf_94 4 rfl ?_
      refine x_i2l dX12_sumOf_95 ?_
      refine x_topl (y := wordOf hl r q t 0) rfl ?_
      refine x_lastN (n := 12) (f := (wP hl r q t wa 0)) dX12_sumOf_96 (hMw.c35) (by decide) (by decide) ?_
      have hM1 := hMw.lw (vp_updL (wP hl r q t wa 0) 0 (wordOf hl r q t 0))
      refine x_geq (congrArg (fun f => xup _ (y + 35) (eJ 12 f)) (wP_s hl r q t wa 0)) ?_
      have hM2 := hMw.lw (wP hl r q t wa (0 + 1))
      refine x_aload_n dX12_sumOf_97 3 rfl ?_
      refine x_get (v := .ref (y + 35)) dX12_sumOf_98 fX12_117 (hM2.1) rfl ?_
      refine x_iconst dX12_sumOf_101 ki_1 ?_
      refine x_iload_n dX12_sumOf_102 5 rfl ?_
      refine x_i2l dX12_sumOf_103 ?_
      refine x_topl (y := wordOf hl r q t 1) rfl ?_
      refine x_lastN (n := 12) (f := (wP hl r q t wa (0 + 1))) dX12_sumOf_104 (hM2.c35) (by decide) (by decide) ?_
      have hM3 := hM2.lw (vp_updL (wP hl r q t wa (0 + 1)) 1 (wordOf hl r q t 1))
      refine x_geq (congrArg (fun f => xup _ (y + 35) (eJ 12 f)) (wP_s hl r q t wa 1)) ?_
      have hM4 := hM2.lw (wP hl r q t wa (1 + 1))
      refine x_aload_n dX12_sumOf_105 3 rfl ?_
      refine x_pc (pc' := 106) rfl ?_
      refine x_get (v := .ref (y + 35)) dX12_sumOf_106 fX12_117 (hM4.1) rfl ?_
      refine x_iconst dX12_sumOf_109 ki_2 ?_
      refine x_aload_n dX12_sumOf_110 3 rfl ?_
      refine x_get (v := .ref (y + 9)) dX12_sumOf_111 fX12_34 (hM4.1) rfl ?_
      refine x_iload_n dX12_sumOf_114 5 rfl ?_
      refine x_ialdN (n := 7) (f := nF (hl 4)) dX12_sumOf_115 (hM4.c9) (by omega) (by decide) ?_
      refine x_i2l dX12_sumOf_116 ?_
      refine x_topl (y := wordOf hl r q t 2) rfl ?_
      refine x_lastN (n := 12) (f := (wP hl r q t wa (1 + 1))) dX12_sumOf_117 (hM4.c35) (by decide) (by decide) ?_
      have hM5 := hM4.lw (vp_updL (wP hl r q t wa (1 + 1)) 2 (wordOf hl r q t 2))
      refine x_geq (congrArg (fun f => xup _ (y + 35) (eJ 12 f)) (wP_s hl r q t wa 2)) ?_
      have hM6 := hM4.lw (wP hl r q t wa (2 + 1))
      refine x_aload_n dX12_sumOf_118 3 rfl ?_
      refine x_get (v := .ref (y + 35)) dX12_sumOf_119 fX12_117 (hM6.1) rfl ?_
      refine x_pc (pc' := 122) rfl ?_
      refine x_iconst dX12_sumOf_122 ki_3 ?_
      refine x_aload_n dX12_sumOf_123 3 rfl ?_
      refine x_get (v := .ref (y + 11)) dX12_sumOf_124 fX12_40 (hM6.1) rfl ?_
      refine x_iload_n dX12_sumOf_127 5 rfl ?_
      refine x_ialdN (n := 7) (f := nF (hl 6)) dX12_sumOf_128 (hM6.c11) (by omega) (by decide) ?_
      refine x_i2l dX12_sumOf_129 ?_
      refine x_topl (y := wordOf hl r q t 3) rfl ?_
      refine x_lastN (n := 12) (f := (wP hl r q t wa (2 + 1))) dX12_sumOf_130 (hM6.c35) (by decide) (by decide) ?_
      have hM7 := hM6.lw (vp_updL (wP hl r q t wa (2 + 1)) 3 (wordOf hl r q t 3))
      refine x_geq (congrArg (fun f => xup _ (y + 35) (eJ 12 f)) (wP_s hl r q t wa 3)) ?_
      have hM8 := hM6.lw (wP hl r q t wa (3 + 1))
      refine x_aload_n dX12_sumOf_131 3 rfl ?_
      refine x_get (v := .ref (y + 35)) dX12_sumOf_132 fX12_117 (hM8.1) rfl ?_
      refine x_iconst dX12_sumOf_135 ki_4 ?_
      refine x_pc (pc' := 136) rfl ?_
      refine x_aload_n dX12_sumOf_136 3 rfl ?_
      refine x_get (v := .ref (y + 1)) dX12_sumOf_137 fX12_9 (hM8.1) rfl ?_
      refine x_iconst dX12_sumOf_140 ki_5 ?_
      refine x_ialdN (n := 9) (f := scal hl r sc) dX12_sumOf_141 (hM8.c1) (by decide) (by decide) ?_
      refine x_topi (y := r 0) rfl ?_
      refine x_aload_n dX12_sumOf_142 3 rfl ?_
      refine x_get (v := .ref (y + 10)) dX12_sumOf_143 fX12_37 (hM8.1) rfl ?_
      refine x_iload_n dX12_sumOf_146 5 rfl ?_
      refine x_ialdN (n := 7) (f := nF (hl 5)) dX12_sumOf_147 (hM8.c10) (by omega) (by decide) ?_
      refine x_isub dX12_sumOf_148 ?_
      refine x_i2l dX12_sumOf_149 ?_
      refine x_topl (y := wordOf hl r q t 4) rfl ?_
      refine x_pc (pc' := 150) rfl ?_
      refine x_lastN (n := 12) (f := (wP hl r q t wa (3 + 1))) dX12_sumOf_150 (hM8.c35) (by decide) (by decide) ?_
      have hM9 := hM8.lw (vp_updL (wP hl r q t wa (3 + 1)) 4 (wordOf hl r q t 4))
      refine x_geq (congrArg (fun f => xup _ (y + 35) (eJ 12 f)) (wP_s hl r q t wa 4)) ?_
      have hM10 := hM8.lw (wP hl r q t wa (4 + 1))
      refine x_aload_n dX12_sumOf_151 3 rfl ?_
      refine x_get (v := .ref (y + 35)) dX12_sumOf_152 fX12_117 (hM10.1) rfl ?_
      refine x_iconst dX12_sumOf_155 ki_5 ?_
      refine x_aload_n dX12_sumOf_156 3 rfl ?_
      refine x_iload_n dX12_sumOf_157 4 rfl ?_
      refine x_iload_n dX12_sumOf_158 5 rfl ?_
      refine x_cV (N := mX12_lasts) (d' := 0) (mc := 0) (ms := 0) (cb := 0) (sb := 0) (As := [.int (nI q), .int (nI t)]) (st := [.int (nI 5), .ref (y + 35)]) dX12_sumOf_159 mX12_lasts_v lX12_370 rfl rfl (hM10.1) rfl (by decide) (Nat.le_of_ble_eq_true rfl) (Md_lasts hM10 hq (by omega) (by omega) hc2 (by have := hO.2.2.2.2.1 (q * 4 + hl 4 t) (by have := hO.1; have := hO.2.2.2.1 t (by omega); omega); omega)) rfl (st1 := [.int (nI (effS hl q t)), .int (nI 5), .ref (y + 35)]) rfl ?_
      refine x_i2l dX12_sumOf_162 ?_
      refine x_topl (y := wordOf hl r q t 5) rfl ?_
      refine x_lastN (n := 12) (f := (wP hl r q t wa (4 + 1))) dX12_sumOf_163 (hM10.c35) (by decide) (by decide) ?_
      have hM11 := hM10.lw (vp_updL (wP hl r q t wa (4 + 1)) 5 (wordOf hl r q t 5))
      refine x_geq (congrArg (fun f => xup _ (y + 35) (eJ 12 f)) (wP_s hl r q t wa 5)) ?_
      have hM12 := hM10.lw (wP hl r q t wa (5 + 1))
      refine x_pc (pc' := 164) rfl ?_
      refine x_aload_n dX12_sumOf_164 3 rfl ?_
      refine x_get (v := .ref (y + 35)) dX12_sumOf_165 fX12_117 (hM12.1) rfl ?_
      refine x_bipush dX12_sumOf_168 kb_6 ?_
      refine x_aload_n dX12_sumOf_170 3 rfl ?_
      refine x_get (v := .ref (y + 12)) dX12_sumOf_171 fX12_43 (hM12.1) rfl ?_
      refine x_iload_n dX12_sumOf_174 5 rfl ?_
      refine x_ialdN (n := 7) (f := nF (hl 7)) dX12_sumOf_175 (hM12.c12) (by omega) (by decide) ?_
      refine x_i2l dX12_sumOf_176 ?_
      refine x_topl (y := wordOf hl r q t 6) rfl ?_
      refine x_lastN (n := 12) (f := (wP hl r q t wa (5 + 1))) dX12_sumOf_177 (hM12.c35) (by decide) (by decide) ?_
      have hM13 := hM12.lw (vp_updL (wP hl r q t wa (5 + 1)) 6 (wordOf hl r q t 6))
      refine x_geq (congrArg (fun f => xup _ (y + 35) (eJ 12 f)) (wP_s hl r q t wa 6)) ?_
      have hM14 := hM12.lw (wP hl r q t wa (6 + 1))
      refine x_aload_n dX12_sumOf_178 3 rfl ?_
      refine x_pc (pc' := 179) rfl ?_
      refine x_get (v := .ref (y + 35)) dX12_sumOf_179 fX12_117 (hM14.1) rfl ?_
      refine x_bipush dX12_sumOf_182 kb_7 ?_
      refine x_aload_n dX12_sumOf_184 3 rfl ?_
      refine x_get (v := .ref (y + 3)) dX12_sumOf_185 fX12_16 (hM14.1) rfl ?_
      refine x_aload_n dX12_sumOf_188 3 rfl ?_
      refine x_get (v := .ref (y + 9)) dX12_sumOf_189 fX12_34 (hM14.1) rfl ?_
      refine x_iload_n dX12_sumOf_192 5 rfl ?_
      refine x_ialdN (n := 7) (f := nF (hl 4)) dX12_sumOf_193 (hM14.c9) (by omega) (by decide) ?_
      refine x_ialdN (n := 4) (f := blk r 1 4) dX12_sumOf_194 (hM14.c3) (by omega) (by decide) ?_
      refine x_topi (y := r (1 + (hl 4 t))) (blk_at (by omega)) ?_
      refine x_i2l dX12_sumOf_195 ?_
      refine x_topl (y := wordOf hl r q t 7) rfl ?_
      refine x_pc (pc' := 196) rfl ?_
      refine x_lastN (n := 12) (f := (wP hl r q t wa (6 + 1))) dX12_sumOf_196 (hM14.c35) (by decide) (by decide) ?_
      have hM15 := hM14.lw (vp_updL (wP hl r q t wa (6 + 1)) 7 (wordOf hl r q t 7))
      refine x_geq (congrArg (fun f => xup _ (y + 35) (eJ 12 f)) (wP_s hl r q t wa 7)) ?_
      have hM16 := hM14.lw (wP hl r q t wa (7 + 1))
      refine x_aload_n dX12_sumOf_197 3 rfl ?_
      refine x_get (v := .ref (y + 35)) dX12_sumOf_198 fX12_117 (hM16.1) rfl ?_
      refine x_bipush dX12_sumOf_201 kb_8 ?_
      refine x_aload_n dX12_sumOf_203 3 rfl ?_
      refine x_iconst dX12_sumOf_204 ki_1 ?_
      refine x_cV (N := mX12_thingsSo) (d' := 0) (mc := 0) (ms := 0) (cb := 0) (sb := 0) (As := [.int (nI 1)]) (st := [.int (nI 8), .ref (y + 35)]) dX12_sumOf_205 mX12_thingsSo_v lX12_373 rfl rfl (hM16.1) rfl (by decide) (Nat.le_of_ble_eq_true rfl) (Md_thingsSo hM16 (by omega)) rfl (st1 := [.int (bitsOf hl r (nI 1)), .int (nI 8), .ref (y + 35)]) rfl ?_
      refine x_cS (N := mX12_bits) (d' := 0) (mc := 0) (ms := 0) (cb := 0) (sb := 0) (As := [.int (bitsOf hl r (nI 1))]) (st := [.int (nI 8), .ref (y + 35)]) dX12_sumOf_208 mX12_bits_s lX12_376 rfl (by decide) (Nat.le_of_ble_eq_true rfl) (Md_bits) rfl (st1 := [.int (btF (bitsOf hl r (nI 1)) 16), .int (nI 8), .ref (y + 35)]) rfl ?_
      refine x_topi (y := nI (cntF (fun t => decide (r (21 + t) = nI 1)) (hl 0 4))) (bitsOf_bt hl r (nI 1) (by omega)) ?_
      refine x_i2l dX12_sumOf_211 ?_
      refine x_topl (y := wordOf hl r q t 8) rfl ?_
      refine x_lastN (n := 12) (f := (wP hl r q t wa (7 + 1))) dX12_sumOf_212 (hM16.c35) (by decide) (by decide) ?_
      have hM17 := hM16.lw (vp_updL (wP hl r q t wa (7 + 1)) 8 (wordOf hl r q t 8))
      refine x_geq (congrArg (fun f => xup _ (y + 35) (eJ 12 f)) (wP_s hl r q t wa 8)) ?_
      have hM18 := hM16.lw (wP hl r q t wa (8 + 1))
      refine x_pc (pc' := 213) rfl ?_
      refine x_aload_n dX12_sumOf_213 3 rfl ?_
      refine x_get (v := .ref (y + 35)) dX12_sumOf_214 fX12_117 (hM18.1) rfl ?_
      refine x_bipush dX12_sumOf_217 kb_9 ?_
      refine x_aload_n dX12_sumOf_219 3 rfl ?_
      refine x_get (v := .ref (y + 1)) dX12_sumOf_220 fX12_9 (hM18.1) rfl ?_
      refine x_iconst dX12_sumOf_223 ki_0 ?_
      refine x_ialdN (n := 9) (f := scal hl r sc) dX12_sumOf_224 (hM18.c1) (by decide) (by decide) ?_
      refine x_topi (y := nI (hl 0 0)) rfl ?_
      refine x_aload_n dX12_sumOf_225 3 rfl ?_
      refine x_get (v := .ref (y + 1)) dX12_sumOf_226 fX12_9 (hM18.1) rfl ?_
      refine x_iconst dX12_sumOf_229 ki_5 ?_
      refine x_pc (pc' := 230) rfl ?_
      refine x_ialdN (n := 9) (f := scal hl r sc) dX12_sumOf_230 (hM18.c1) (by decide) (by decide) ?_
      refine x_topi (y := r 0) rfl ?_
      refine x_isub dX12_sumOf_231 ?_
      refine x_i2l dX12_sumOf_232 ?_
      refine x_topl (y := wordOf hl r q t 9) rfl ?_
      refine x_lastN (n := 12) (f := (wP hl r q t wa (8 + 1))) dX12_sumOf_233 (hM18.c35) (by decide) (by decide) ?_
      have hM19 := hM18.lw (vp_updL (wP hl r q t wa (8 + 1)) 9 (wordOf hl r q t 9))
      refine x_geq (congrArg (fun f => xup _ (y + 35) (eJ 12 f)) (wP_s hl r q t wa 9)) ?_
      have hM20 := hM18.lw (wP hl r q t wa (9 + 1))
      refine x_aload_n dX12_sumOf_234 3 rfl ?_
      refine x_get (v := .ref (y + 35)) dX12_sumOf_235 fX12_117 (hM20.1) rfl ?_
      refine x_bipush dX12_sumOf_238 kb_10 ?_
      refine x_iload_n dX12_sumOf_240 2 rfl ?_
      refine x_i2l dX12_sumOf_241 ?_
      refine x_topl (y := wordOf hl r q t 10) rfl ?_
      refine x_lastN (n := 12) (f := (wP hl r q t wa (9 + 1))) dX12_sumOf_242 (hM20.c35) (by decide) (by decide) ?_
      have hM21 := hM20.lw (vp_updL (wP hl r q t wa (9 + 1)) 10 (wordOf hl r q t 10))
      refine x_geq (congrArg (fun f => xup _ (y + 35) (eJ 12 f)) (wP_s hl r q t wa 10)) ?_
      have hM22 := hM20.lw (wP hl r q t wa (10 + 1))
      refine x_pc (pc' := 243) rfl ?_
      refine x_aload_n dX12_sumOf_243 3 rfl ?_
      refine x_get (v := .ref (y + 35)) dX12_sumOf_244 fX12_117 (hM22.1) rfl ?_
      refine x_bipush dX12_sumOf_247 kb_11 ?_
      refine x_iload dX12_sumOf_249 1 rfl ?_
      refine x_i2l dX12_sumOf_251 ?_
      refine x_topl (y := wordOf hl r q t 11) rfl ?_
      refine x_lastN (n := 12) (f := (wP hl r q t wa (10 + 1))) dX12_sumOf_252 (hM22.c35) (by decide) (by decide) ?_
      have hM23 := hM22.lw (vp_updL (wP hl r q t wa (10 + 1)) 11 (wordOf hl r q t 11))
      refine x_geq (congrArg (fun f => xup _ (y + 35) (eJ 12 f)) (wP_s hl r q t wa 11)) ?_
      refine x_acongL (g := wordOf hl r q t) (fun j hj => if_pos hj) ?_
      have hMz := hM22.lw (wordOf hl r q t)
      refine x_aload_n dX12_sumOf_253 3 rfl ?_
      refine x_cVe (N := mX12_wanted) (d' := 3) (mc := 0) (ms := 0) (cb := 0) (sb := 0) (As := []) (st := []) dX12_sumOf_254 mX12_wanted_v lX12_379 rfl rfl (hMz.1) rfl (by decide) (Nat.le_of_ble_eq_true rfl) (Md_wanted hR hMz hfo (hwf _)) rfl (sf := fun ez => [.long (wantF (wordOf hl r q t) cs0)]) (fun _ => rfl) (fun ez hqz => ?_)
      obtain ⟨skz, Hz⟩ := ez
      exact x_lret dX12_sumOf_257 rfl (xEx_i ((wordOf hl r q t, skz), Hz) hqz rfl rfl rfl)
    · exact absurd c55 (by omega)
  | succ i ih =>
    intro k hk
    have b3 := hB 3 (q * 4 + k)
    refine x_iload dX12_sumOf_47 0 rfl ?_
    refine x_aload_n dX12_sumOf_49 3 rfl ?_
    refine x_get (v := .ref (y + 1)) dX12_sumOf_50 fX12_9 (hM.1) rfl ?_
    refine x_iconst dX12_sumOf_53 ki_2 ?_
    refine x_ialdN (n := 9) (f := scal hl r sc) dX12_sumOf_54 (hM.c1) (by decide) (by decide) ?_
    refine x_topi (y := nI (hl 0 2)) rfl ?_
    refine x_icmpN_ge (tgt := 89) dX12_sumOf_55 (by decide) (by omega) (by omega) (fun c55 => ?_) (fun c55 => ?_)
    · exact absurd c55 (by omega)
    · refine x_iload dX12_sumOf_58 1 rfl ?_
      refine x_aload_n dX12_sumOf_60 3 rfl ?_
      refine x_get (v := .ref (y + 4)) dX12_sumOf_61 fX12_19 (hM.1) rfl ?_
      refine x_pc (pc' := 64) rfl ?_
      refine x_iconst dX12_sumOf_64 ki_4 ?_
      refine x_iload_n dX12_sumOf_65 4 rfl ?_
      refine x_imulN dX12_sumOf_66 ?_
      refine x_iload dX12_sumOf_67 0 rfl ?_
      refine x_iaddN dX12_sumOf_69 ?_
      refine x_ialdN (n := 16) (f := fun j => skJ (hl 3 j)) dX12_sumOf_70 (hM.c4) (by omega) (by decide) ?_
      refine x_topi (y := skJ (hl 3 (q * 4 + k))) (by rw [Nat.mul_comm 4 q]) ?_
      refine x_iconst dX12_sumOf_71 ki_m1 ?_
      refine x_icmp_eq (x := skJ (hl 3 (q * 4 + k))) (y := (-1)) (tgt := 79) dX12_sumOf_72 (by decide) (fun c72 => ?_) (fun c72 => ?_)
      · refine x_iconst dX12_sumOf_79 ki_0 ?_
        refine x_iaddN dX12_sumOf_80 ?_
        refine x_pc (pc' := 81) rfl ?_
        refine x_istore (ls' := [(4, .int (nI ((cntF (fun s => decide (0 < hl 3 (q * 4 + s))) k) + 0))), (5, .int (nI k)), (3, .int (nI (cntF (fun q => decide (r (5 + q) = -1)) (hl 0 3)))), (0, .ref y), (1, .int (nI q)), (2, .int (nI t))]) dX12_sumOf_81 (by decide) rfl ?_
        refine x_iinc (v := nI (k + 1)) (ls' := [(5, .int (nI (k + 1))), (4, .int (nI ((cntF (fun s => decide (0 < hl 3 (q * 4 + s))) k) + 0))), (3, .int (nI (cntF (fun q => decide (r (5 + q) = -1)) (hl 0 3)))), (0, .ref y), (1, .int (nI q)), (2, .int (nI t))]) dX12_sumOf_83 1 rfl (nIs _) (by decide) rfl ?_
        refine x_goto (tgt := 47) dX12_sumOf_86 (by decide) ?_
        refine x_leq (ls' := [(5, .int (nI (k + 1))), (4, .int (nI (cntF (fun s => decide (0 < hl 3 (q * 4 + s))) (k + 1)))), (3, .int (nI (cntF (fun q => decide (r (5 + q) = -1)) (hl 0 3)))), (0, .ref y), (1, .int (nI q)), (2, .int (nI t))]) (by rw [← cnt_0 (p := fun s => decide (0 < hl 3 (q * 4 + s))) (decide_eq_false (fun e => (skJ_ne (by omega)).mpr e c72))]) ?_
        exact ih (k + 1) (by omega)
      · refine x_iconst dX12_sumOf_75 ki_1 ?_
        refine x_goto (tgt := 80) dX12_sumOf_76 (by decide) ?_
        refine x_pc (pc' := 80) rfl ?_
        refine x_iaddN dX12_sumOf_80 ?_
        refine x_istore (ls' := [(4, .int (nI ((cntF (fun s => decide (0 < hl 3 (q * 4 + s))) k) + 1))), (5, .int (nI k)), (3, .int (nI (cntF (fun q => decide (r (5 + q) = -1)) (hl 0 3)))), (0, .ref y), (1, .int (nI q)), (2, .int (nI t))]) dX12_sumOf_81 (by decide) rfl ?_
        refine x_iinc (v := nI (k + 1)) (ls' := [(5, .int (nI (k + 1))), (4, .int (nI ((cntF (fun s => decide (0 < hl 3 (q * 4 + s))) k) + 1))), (3, .int (nI (cntF (fun q => decide (r (5 + q) = -1)) (hl 0 3)))), (0, .ref y), (1, .int (nI q)), (2, .int (nI t))]) dX12_sumOf_83 1 rfl (nIs _) (by decide) rfl ?_
        refine x_goto (tgt := 47) dX12_sumOf_86 (by decide) ?_
        refine x_leq (ls' := [(5, .int (nI (k + 1))), (4, .int (nI (cntF (fun s => decide (0 < hl 3 (q * 4 + s))) (k + 1)))), (3, .int (nI (cntF (fun q => decide (r (5 + q) = -1)) (hl 0 3)))), (0, .ref y), (1, .int (nI q)), (2, .int (nI t))]) (by rw [← cnt_1 (p := fun s => decide (0 < hl 3 (q * 4 + s))) (decide_eq_true ((skJ_ne (by omega)).mp c72))]) ?_
        exact ih (k + 1) (by omega)
theorem Md_sumOf_l1 {K : xG} {h y : Nat} {G0 G : xHp} {hl : xHl} {r : xRw} {sc : Nat × Nat × Int32} {A : Nat → Nat → Int32} {F : Nat → Int32} {wa sa : Nat → Int64} {w q t : Nat} {cs0 : List (List Nat × List Nat)} (hM : MW G0 G y hl r sc A F wa sa) (hR : RefR A w cs0) (hfo : sc.2.2 = nI w) (hwf : ∀ (wd : Nat → Int64) c, c ∈ cs0 → WfC wd c) (hO : HallOk hl) (hq : q < 4) (hq3 : q < hl 0 3) (ht : t < hl 0 4) (hc : canT hl r q t = true) : ∀ (i k : Nat), k + i = hl 0 3 → xV K mX12_sumOf 4 0 0 h G 8 [(5, .int (nI k)), (4, .int (nI 0)), (3, .int (nI (cntF (fun q => decide (r (5 + q) = -1)) k))), (0, .ref y), (1, .int (nI q)), (2, .int (nI t))] [] (mdX G0 h y (some (.long (wantF (wordOf hl r q t) cs0))) hl r sc A F) := by
  have hB := hM.hB
  obtain ⟨o2, o3, o4, o5, o6, o7, o8, o9⟩ := id hO
  have o5t := o5 t ht
  obtain ⟨hc1, hc2, hc3⟩ := of_decide_eq_true hc
  intro i
  induction i with
  | zero =>
    intro k hk
    have hk0 : k = hl 0 3 := by omega
    subst hk0
    refine x_iload dX12_sumOf_8 0 rfl ?_
    refine x_aload_n dX12_sumOf_10 3 rfl ?_
    refine x_get (v := .ref (y + 1)) dX12_sumOf_11 fX12_9 (hM.1) rfl ?_
    refine x_iconst dX12_sumOf_14 ki_3 ?_
    refine x_ialdN (n := 9) (f := scal hl r sc) dX12_sumOf_15 (hM.c1) (by decide) (by decide) ?_
    refine x_topi (y := nI (hl 0 3)) rfl ?_
    refine x_icmpN_ge (tgt := 44) dX12_sumOf_16 (by decide) (by omega) (by omega) (fun c16 => ?_) (fun c16 => ?_)
    · refine x_iconst dX12_sumOf_44 ki_0 ?_
      refine x_istore (ls' := [(5, .int (nI 0)), (4, .int (nI 0)), (3, .int (nI (cntF (fun q => decide (r (5 + q) = -1)) (hl 0 3)))), (0, .ref y), (1, .int (nI q)), (2, .int (nI t))]) dX12_sumOf_45 (by decide) rfl ?_
      exact Md_sumOf_l2 (hq3 := hq3) hM hR hfo hwf hO hq ht hc (hl 0 2) 0 (by omega)
    · exact absurd c16 (by omega)
  | succ i ih =>
    intro k hk
    refine x_iload dX12_sumOf_8 0 rfl ?_
    refine x_aload_n dX12_sumOf_10 3 rfl ?_
    refine x_get (v := .ref (y + 1)) dX12_sumOf_11 fX12_9 (hM.1) rfl ?_
    refine x_iconst dX12_sumOf_14 ki_3 ?_
    refine x_ialdN (n := 9) (f := scal hl r sc) dX12_sumOf_15 (hM.c1) (by decide) (by decide) ?_
    refine x_topi (y := nI (hl 0 3)) rfl ?_
    refine x_icmpN_ge (tgt := 44) dX12_sumOf_16 (by decide) (by omega) (by omega) (fun c16 => ?_) (fun c16 => ?_)
    · exact absurd c16 (by omega)
    · refine x_iload_n dX12_sumOf_19 2 rfl ?_
      refine x_aload_n dX12_sumOf_20 3 rfl ?_
      refine x_get (v := .ref (y + 5)) dX12_sumOf_21 fX12_22 (hM.1) rfl ?_
      refine x_pc (pc' := 24) rfl ?_
      refine x_iload dX12_sumOf_24 0 rfl ?_
      refine x_ialdN (n := 4) (f := blk r 5 4) dX12_sumOf_26 (hM.c5) (by omega) (by decide) ?_
      refine x_topi (y := r (5 + k)) (blk_at (by omega)) ?_
      refine x_iconst dX12_sumOf_27 ki_m1 ?_
      refine x_icmp_ne (x := r (5 + k)) (y := (-1)) (tgt := 35) dX12_sumOf_28 (by decide) (fun c28 => ?_) (fun c28 => ?_)
      · refine x_iconst dX12_sumOf_35 ki_0 ?_
        refine x_iaddN dX12_sumOf_36 ?_
        refine x_istore_n (ls' := [(3, .int (nI ((cntF (fun q => decide (r (5 + q) = -1)) k) + 0))), (5, .int (nI k)), (4, .int (nI 0)), (0, .ref y), (1, .int (nI q)), (2, .int (nI t))]) dX12_sumOf_37 (by decide) rfl ?_
        refine x_iinc (v := nI (k + 1)) (ls' := [(5, .int (nI (k + 1))), (3, .int (nI ((cntF (fun q => decide (r (5 + q) = -1)) k) + 0))), (4, .int (nI 0)), (0, .ref y), (1, .int (nI q)), (2, .int (nI t))]) dX12_sumOf_38 1 rfl (nIs _) (by decide) rfl ?_
        refine x_goto (tgt := 8) dX12_sumOf_41 (by decide) ?_
        refine x_perm (ls' := [(5, .int (nI (k + 1))), (4, .int (nI 0)), (3, .int (nI ((cntF (fun q => decide (r (5 + q) = -1)) k) + 0))), (0, .ref y), (1, .int (nI q)), (2, .int (nI t))]) [0, 2, 1, 3, 4, 5] rfl ?_
        refine x_leq (ls' := [(5, .int (nI (k + 1))), (4, .int (nI 0)), (3, .int (nI (cntF (fun q => decide (r (5 + q) = -1)) (k + 1)))), (0, .ref y), (1, .int (nI q)), (2, .int (nI t))]) (by rw [← cnt_0 (p := fun q => decide (r (5 + q) = -1)) (decide_eq_false c28)]) ?_
        exact ih (k + 1) (by omega)
      · refine x_iconst dX12_sumOf_31 ki_1 ?_
        refine x_goto (tgt := 36) dX12_sumOf_32 (by decide) ?_
        refine x_iaddN dX12_sumOf_36 ?_
        refine x_istore_n (ls' := [(3, .int (nI ((cntF (fun q => decide (r (5 + q) = -1)) k) + 1))), (5, .int (nI k)), (4, .int (nI 0)), (0, .ref y), (1, .int (nI q)), (2, .int (nI t))]) dX12_sumOf_37 (by decide) rfl ?_
        refine x_iinc (v := nI (k + 1)) (ls' := [(5, .int (nI (k + 1))), (3, .int (nI ((cntF (fun q => decide (r (5 + q) = -1)) k) + 1))), (4, .int (nI 0)), (0, .ref y), (1, .int (nI q)), (2, .int (nI t))]) dX12_sumOf_38 1 rfl (nIs _) (by decide) rfl ?_
        refine x_goto (tgt := 8) dX12_sumOf_41 (by decide) ?_
        refine x_perm (ls' := [(5, .int (nI (k + 1))), (4, .int (nI 0)), (3, .int (nI ((cntF (fun q => decide (r (5 + q) = -1)) k) + 1))), (0, .ref y), (1, .int (nI q)), (2, .int (nI t))]) [0, 2, 1, 3, 4, 5] rfl ?_
        refine x_leq (ls' := [(5, .int (nI (k + 1))), (4, .int (nI 0)), (3, .int (nI (cntF (fun q => decide (r (5 + q) = -1)) (k + 1)))), (0, .ref y), (1, .int (nI q)), (2, .int (nI t))]) (by rw [← cnt_1 (p := fun q => decide (r (5 + q) = -1)) (decide_eq_true c28)]) ?_
        exact ih (k + 1) (by omega)
theorem Md_sumOf {K : xG} {h y : Nat} {G0 G : xHp} {hl : xHl} {r : xRw} {sc : Nat × Nat × Int32} {A : Nat → Nat → Int32} {F : Nat → Int32} {wa sa : Nat → Int64} {w q t : Nat} {cs0 : List (List Nat × List Nat)} (hM : MW G0 G y hl r sc A F wa sa) (hR : RefR A w cs0) (hfo : sc.2.2 = nI w) (hwf : ∀ (wd : Nat → Int64) c, c ∈ cs0 → WfC wd c) (hO : HallOk hl) (hq : q < 4) (hq3 : q < hl 0 3) (ht : t < hl 0 4) (hc : canT hl r q t = true) : xCall K mX12_sumOf 4 0 0 [.ref y, .int (nI q), .int (nI t)] h G (mdX G0 h y (some (.long (wantF (wordOf hl r q t) cs0))) hl r sc A F) := by
  refine x_entry (by decide) (ls := [(0, .ref y), (1, .int (nI q)), (2, .int (nI t))]) rfl (Nat.le_of_ble_eq_true rfl) ?_
  refine x_iconst dX12_sumOf_0 ki_0 ?_
  refine x_istore_n (ls' := [(3, .int (nI 0)), (0, .ref y), (1, .int (nI q)), (2, .int (nI t))]) dX12_sumOf_1 (by decide) rfl ?_
  refine x_iconst dX12_sumOf_2 ki_0 ?_
  refine x_istore (ls' := [(4, .int (nI 0)), (3, .int (nI 0)), (0, .ref y), (1, .int (nI q)), (2, .int (nI t))]) dX12_sumOf_3 (by decide) rfl ?_
  refine x_iconst dX12_sumOf_5 ki_0 ?_
  refine x_istore (ls' := [(5, .int (nI 0)), (4, .int (nI 0)), (3, .int (nI 0)), (0, .ref y), (1, .int (nI q)), (2, .int (nI t))]) dX12_sumOf_6 (by decide) rfl ?_
  exact Md_sumOf_l1 (hq3 := hq3) hM hR hfo hwf hO hq ht hc (hl 0 3) 0 (by omega)
theorem Md_choice_n1 {K : xG} {h y : Nat} {G0 : xHp} {hl : xHl} {r : xRw} {sc : Nat × Nat × Int32} {A : Nat → Nat → Int32} {F : Nat → Int32} {q : Nat} (hO : HallOk hl) (hq : q < 4) (hfo : sc.2.2 = -1) : ∀ (i t : Nat) (w1 k1 : Nat → Int64) (G1 : xHp), t + i = hl 0 4 → MW G0 G1 y hl r sc A F w1 k1 → xV K mX12_choiceOf 5 0 0 h G1 7 [(5, .int (nI t)), (3, .long ((chF (canT hl r q) (key0 hl) t).2)), (2, .int (chI (chF (canT hl r q) (key0 hl) t).1)), (0, .ref y), (1, .int (nI q))] [] (mdX G0 h y (some (.int (chI (chF (canT hl r q) (key0 hl) (hl 0 4)).1))) hl r sc A F) := by
  obtain ⟨o2, o3, o4, o5, o6, o7, o8, o9⟩ := id hO
  intro i
  induction i with
  | zero =>
    intro t w1 k1 G1 hi hM1
    have hi0 : t = hl 0 4 := by omega
    subst hi0
    refine x_iload dX12_choiceOf_7 0 rfl ?_
    refine x_aload_n dX12_choiceOf_9 3 rfl ?_
    refine x_get (v := .ref (y + 1)) dX12_choiceOf_10 fX12_9 (hM1.1) rfl ?_
    refine x_iconst dX12_choiceOf_13 ki_4 ?_
    refine x_ialdN (n := 9) (f := scal hl r sc) dX12_choiceOf_14 (hM1.c1) (by decide) (by decide) ?_
    refine x_topi (y := nI (hl 0 4)) rfl ?_
    refine x_icmpN_ge (tgt := 82) dX12_choiceOf_15 (by decide) (by omega) (by omega) (fun c15 => ?_) (fun c15 => ?_)
    · refine x_iload_n dX12_choiceOf_82 2 rfl ?_
      exact x_iret dX12_choiceOf_83 rfl (xEx_i ((w1, k1), G1) hM1 rfl rfl rfl)
    · exact absurd c15 (by omega)
  | succ i ih =>
    intro t w1 k1 G1 hi hM1
    have o5t := o5 t (by omega)
    refine x_iload dX12_choiceOf_7 0 rfl ?_
    refine x_aload_n dX12_choiceOf_9 3 rfl ?_
    refine x_get (v := .ref (y + 1)) dX12_choiceOf_10 fX12_9 (hM1.1) rfl ?_
    refine x_iconst dX12_choiceOf_13 ki_4 ?_
    refine x_ialdN (n := 9) (f := scal hl r sc) dX12_choiceOf_14 (hM1.c1) (by decide) (by decide) ?_
    refine x_topi (y := nI (hl 0 4)) rfl ?_
    refine x_icmpN_ge (tgt := 82) dX12_choiceOf_15 (by decide) (by omega) (by omega) (fun c15 => ?_) (fun c15 => ?_)
    · exact absurd c15 (by omega)
    · refine x_aload_n dX12_choiceOf_18 3 rfl ?_
      refine x_iload_n dX12_choiceOf_19 4 rfl ?_
      refine x_iload dX12_choiceOf_20 0 rfl ?_
      refine x_pc (pc' := 22) rfl ?_
      refine x_cV (N := mX12_canTake) (d' := 0) (mc := 0) (ms := 0) (cb := 0) (sb := 0) (As := [.int (nI q), .int (nI t)]) (st := []) dX12_choiceOf_22 mX12_canTake_v lX12_383 rfl rfl (hM1.1) rfl (by decide) (Nat.le_of_ble_eq_true rfl) (Md_canTake hM1 hq (by omega) (by omega)) rfl (st1 := [.int (bI (canT hl r q t))]) rfl ?_
      refine x_ifB_eq (tgt := 76) dX12_choiceOf_25 (by decide) (fun c25 => ?_) (fun c25 => ?_)
      · refine x_iinc (v := nI (t + 1)) (ls' := [(5, .int (nI (t + 1))), (3, .long ((chF (canT hl r q) (key0 hl) t).2)), (2, .int (chI (chF (canT hl r q) (key0 hl) t).1)), (0, .ref y), (1, .int (nI q))]) dX12_choiceOf_76 0 rfl (nIs _) (by decide) rfl ?_
        refine x_goto (tgt := 7) dX12_choiceOf_79 (by decide) ?_
        have hch : (chF (canT hl r q) (key0 hl) (t + 1)) = _ := if_neg (fun e => absurd (c25.symm.trans e.1) (by decide))
        refine x_leq (ls' := [(5, .int (nI (t + 1))), (3, .long (chF (canT hl r q) (key0 hl) (t + 1)).2), (2, .int (chI (chF (canT hl r q) (key0 hl) (t + 1)).1)), (0, .ref y), (1, .int (nI q))]) (by rw [hch]) ?_
        exact ih (t + 1) _ _ _ (by omega) hM1
      · refine x_aload_n dX12_choiceOf_28 3 rfl ?_
        refine x_get (v := .ref (y + 1)) dX12_choiceOf_29 fX12_9 (hM1.1) rfl ?_
        refine x_bipush dX12_choiceOf_32 kb_8 ?_
        refine x_ialdN (n := 9) (f := scal hl r sc) dX12_choiceOf_34 (hM1.c1) (by decide) (by decide) ?_
        refine x_topi (y := sc.2.2) rfl ?_
        refine x_topi (y := -1) hfo ?_
        refine x_iconst dX12_choiceOf_35 ki_m1 ?_
        refine x_icmp_ne (x := (-1)) (y := (-1)) (tgt := 54) dX12_choiceOf_36 (by decide) (fun c36 => ?_) (fun c36 => ?_)
        · exact absurd rfl c36
        · refine x_ldc2 dX12_choiceOf_39 cX12_386 ?_
          refine x_aload_n dX12_choiceOf_42 3 rfl ?_
          refine x_pc (pc' := 43) rfl ?_
          refine x_get (v := .ref (y + 10)) dX12_choiceOf_43 fX12_37 (hM1.1) rfl ?_
          refine x_iload dX12_choiceOf_46 0 rfl ?_
          refine x_ialdN (n := 7) (f := nF (hl 5)) dX12_choiceOf_48 (hM1.c10) (by omega) (by decide) ?_
          refine x_i2l dX12_choiceOf_49 ?_
          refine x_lsub dX12_choiceOf_50 ?_
          refine x_topl (y := key0 hl t) rfl ?_
          refine x_goto (tgt := 61) dX12_choiceOf_51 (by decide) ?_
          refine x_lstore (ls' := [(6, .long (key0 hl t)), (5, .int (nI t)), (3, .long ((chF (canT hl r q) (key0 hl) t).2)), (2, .int (chI (chF (canT hl r q) (key0 hl) t).1)), (0, .ref y), (1, .int (nI q))]) dX12_choiceOf_61 (by decide) rfl ?_
          refine x_lload dX12_choiceOf_63 0 rfl ?_
          refine x_lload_n dX12_choiceOf_65 2 rfl ?_
          refine x_lcmp dX12_choiceOf_66 ?_
          refine x_pc (pc' := 67) rfl ?_
          refine x_if_le (tgt := 76) dX12_choiceOf_67 (by decide) (fun c67 => ?_) (fun c67 => ?_)
          · refine x_iinc (v := nI (t + 1)) (ls' := [(5, .int (nI (t + 1))), (6, .long (key0 hl t)), (3, .long ((chF (canT hl r q) (key0 hl) t).2)), (2, .int (chI (chF (canT hl r q) (key0 hl) t).1)), (0, .ref y), (1, .int (nI q))]) dX12_choiceOf_76 1 rfl (nIs _) (by decide) rfl ?_
            refine x_goto (tgt := 7) dX12_choiceOf_79 (by decide) ?_
            refine x_perm (ls' := [(5, .int (nI (t + 1))), (3, .long ((chF (canT hl r q) (key0 hl) t).2)), (2, .int (chI (chF (canT hl r q) (key0 hl) t).1)), (0, .ref y), (1, .int (nI q))]) [0, 2, 3, 4, 5] rfl ?_
            have hch : (chF (canT hl r q) (key0 hl) (t + 1)) = _ := if_neg (fun e => absurd e.2 (Int64.not_lt.mpr ((lg_cmp_le _ _).mp c67)))
            refine x_leq (ls' := [(5, .int (nI (t + 1))), (3, .long (chF (canT hl r q) (key0 hl) (t + 1)).2), (2, .int (chI (chF (canT hl r q) (key0 hl) (t + 1)).1)), (0, .ref y), (1, .int (nI q))]) (by rw [hch]) ?_
            exact ih (t + 1) _ _ _ (by omega) hM1
          · refine x_iload dX12_choiceOf_70 1 rfl ?_
            refine x_istore_n (ls' := [(2, .int (nI t)), (6, .long (key0 hl t)), (5, .int (nI t)), (3, .long ((chF (canT hl r q) (key0 hl) t).2)), (0, .ref y), (1, .int (nI q))]) dX12_choiceOf_72 (by decide) rfl ?_
            refine x_lload dX12_choiceOf_73 1 rfl ?_
            refine x_lstore_n (ls' := [(3, .long (key0 hl t)), (2, .int (nI t)), (6, .long (key0 hl t)), (5, .int (nI t)), (0, .ref y), (1, .int (nI q))]) dX12_choiceOf_75 (by decide) rfl ?_
            refine x_iinc (v := nI (t + 1)) (ls' := [(5, .int (nI (t + 1))), (3, .long (key0 hl t)), (2, .int (nI t)), (6, .long (key0 hl t)), (0, .ref y), (1, .int (nI q))]) dX12_choiceOf_76 3 rfl (nIs _) (by decide) rfl ?_
            refine x_goto (tgt := 7) dX12_choiceOf_79 (by decide) ?_
            refine x_perm (ls' := [(5, .int (nI (t + 1))), (3, .long (key0 hl t)), (2, .int (nI t)), (0, .ref y), (1, .int (nI q))]) [0, 1, 2, 4, 5] rfl ?_
            have hch : (chF (canT hl r q) (key0 hl) (t + 1)) = _ := if_pos ⟨c25, Int64.not_le.mp (fun e => c67 ((lg_cmp_le _ _).mpr e))⟩
            refine x_leq (ls' := [(5, .int (nI (t + 1))), (3, .long (chF (canT hl r q) (key0 hl) (t + 1)).2), (2, .int (chI (chF (canT hl r q) (key0 hl) (t + 1)).1)), (0, .ref y), (1, .int (nI q))]) (by rw [hch]; rfl) ?_
            exact ih (t + 1) _ _ _ (by omega) hM1
theorem Md_choice_n {K : xG} {h y : Nat} {G0 G : xHp} {hl : xHl} {r : xRw} {sc : Nat × Nat × Int32} {A : Nat → Nat → Int32} {F : Nat → Int32} {q : Nat} {wa sa : Nat → Int64} (hM : MW G0 G y hl r sc A F wa sa) (hO : HallOk hl) (hq : q < 4) (hfo : sc.2.2 = -1) : xCall K mX12_choiceOf 5 0 0 [.ref y, .int (nI q)] h G (mdX G0 h y (some (.int (chI (chF (canT hl r q) (key0 hl) (hl 0 4)).1))) hl r sc A F) := by
  refine x_entry (by decide) (ls := [(0, .ref y), (1, .int (nI q))]) rfl (Nat.le_of_ble_eq_true rfl) ?_
  refine x_iconst dX12_choiceOf_0 ki_m1 ?_
  refine x_istore_n (ls' := [(2, .int (-1)), (0, .ref y), (1, .int (nI q))]) dX12_choiceOf_1 (by decide) rfl ?_
  refine x_lconst (v := 0) dX12_choiceOf_2 rfl ?_
  refine x_lstore_n (ls' := [(3, .long 0), (2, .int (-1)), (0, .ref y), (1, .int (nI q))]) dX12_choiceOf_3 (by decide) rfl ?_
  refine x_iconst dX12_choiceOf_4 ki_0 ?_
  refine x_istore (ls' := [(5, .int (nI 0)), (3, .long 0), (2, .int (-1)), (0, .ref y), (1, .int (nI q))]) dX12_choiceOf_5 (by decide) rfl ?_
  refine x_leq (ls' := [(5, .int (nI 0)), (3, .long (chF (canT hl r q) (key0 hl) 0).2), (2, .int (chI (chF (canT hl r q) (key0 hl) 0).1)), (0, .ref y), (1, .int (nI q))]) rfl ?_
  exact Md_choice_n1 hO hq hfo (hl 0 4) 0 wa sa G (by omega) hM
theorem Md_choice_s1 {K : xG} {h y : Nat} {G0 : xHp} {hl : xHl} {r : xRw} {sc : Nat × Nat × Int32} {A : Nat → Nat → Int32} {F : Nat → Int32} {q w : Nat} {cs0 : List (List Nat × List Nat)} (hO : HallOk hl) (hq : q < 4) (hq3 : q < hl 0 3) (hR : RefR A w cs0) (hfo : sc.2.2 = nI w) (hwf : ∀ (wd : Nat → Int64) c, c ∈ cs0 → WfC wd c) : ∀ (i t : Nat) (w1 k1 : Nat → Int64) (G1 : xHp), t + i = hl 0 4 → MW G0 G1 y hl r sc A F w1 k1 → xV K mX12_choiceOf 5 0 0 h G1 7 [(5, .int (nI t)), (3, .long ((chF (canT hl r q) (fun t => wantF (wordOf hl r q t) cs0) t).2)), (2, .int (chI (chF (canT hl r q) (fun t => wantF (wordOf hl r q t) cs0) t).1)), (0, .ref y), (1, .int (nI q))] [] (mdX G0 h y (some (.int (chI (chF (canT hl r q) (fun t => wantF (wordOf hl r q t) cs0) (hl 0 4)).1))) hl r sc A F) := by
  obtain ⟨o2, o3, o4, o5, o6, o7, o8, o9⟩ := id hO
  intro i
  induction i with
  | zero =>
    intro t w1 k1 G1 hi hM1
    have hi0 : t = hl 0 4 := by omega
    subst hi0
    refine x_iload dX12_choiceOf_7 0 rfl ?_
    refine x_aload_n dX12_choiceOf_9 3 rfl ?_
    refine x_get (v := .ref (y + 1)) dX12_choiceOf_10 fX12_9 (hM1.1) rfl ?_
    refine x_iconst dX12_choiceOf_13 ki_4 ?_
    refine x_ialdN (n := 9) (f := scal hl r sc) dX12_choiceOf_14 (hM1.c1) (by decide) (by decide) ?_
    refine x_topi (y := nI (hl 0 4)) rfl ?_
    refine x_icmpN_ge (tgt := 82) dX12_choiceOf_15 (by decide) (by omega) (by omega) (fun c15 => ?_) (fun c15 => ?_)
    · refine x_iload_n dX12_choiceOf_82 2 rfl ?_
      exact x_iret dX12_choiceOf_83 rfl (xEx_i ((w1, k1), G1) hM1 rfl rfl rfl)
    · exact absurd c15 (by omega)
  | succ i ih =>
    intro t w1 k1 G1 hi hM1
    have o5t := o5 t (by omega)
    refine x_iload dX12_choiceOf_7 0 rfl ?_
    refine x_aload_n dX12_choiceOf_9 3 rfl ?_
    refine x_get (v := .ref (y + 1)) dX12_choiceOf_10 fX12_9 (hM1.1) rfl ?_
    refine x_iconst dX12_choiceOf_13 ki_4 ?_
    refine x_ialdN (n := 9) (f := scal hl r sc) dX12_choiceOf_14 (hM1.c1) (by decide) (by decide) ?_
    refine x_topi (y := nI (hl 0 4)) rfl ?_
    refine x_icmpN_ge (tgt := 82) dX12_choiceOf_15 (by decide) (by omega) (by omega) (fun c15 => ?_) (fun c15 => ?_)
    · exact absurd c15 (by omega)
    · refine x_aload_n dX12_choiceOf_18 3 rfl ?_
      refine x_iload_n dX12_choiceOf_19 4 rfl ?_
      refine x_iload dX12_choiceOf_20 0 rfl ?_
      refine x_pc (pc' := 22) rfl ?_
      refine x_cV (N := mX12_canTake) (d' := 0) (mc := 0) (ms := 0) (cb := 0) (sb := 0) (As := [.int (nI q), .int (nI t)]) (st := []) dX12_choiceOf_22 mX12_canTake_v lX12_383 rfl rfl (hM1.1) rfl (by decide) (Nat.le_of_ble_eq_true rfl) (Md_canTake hM1 hq (by omega) (by omega)) rfl (st1 := [.int (bI (canT hl r q t))]) rfl ?_
      refine x_ifB_eq (tgt := 76) dX12_choiceOf_25 (by decide) (fun c25 => ?_) (fun c25 => ?_)
      · refine x_iinc (v := nI (t + 1)) (ls' := [(5, .int (nI (t + 1))), (3, .long ((chF (canT hl r q) (fun t => wantF (wordOf hl r q t) cs0) t).2)), (2, .int (chI (chF (canT hl r q) (fun t => wantF (wordOf hl r q t) cs0) t).1)), (0, .ref y), (1, .int (nI q))]) dX12_choiceOf_76 0 rfl (nIs _) (by decide) rfl ?_
        refine x_goto (tgt := 7) dX12_choiceOf_79 (by decide) ?_
        have hch : (chF (canT hl r q) (fun t => wantF (wordOf hl r q t) cs0) (t + 1)) = _ := if_neg (fun e => absurd (c25.symm.trans e.1) (by decide))
        refine x_leq (ls' := [(5, .int (nI (t + 1))), (3, .long (chF (canT hl r q) (fun t => wantF (wordOf hl r q t) cs0) (t + 1)).2), (2, .int (chI (chF (canT hl r q) (fun t => wantF (wordOf hl r q t) cs0) (t + 1)).1)), (0, .ref y), (1, .int (nI q))]) (by rw [hch]) ?_
        exact ih (t + 1) _ _ _ (by omega) hM1
      · refine x_aload_n dX12_choiceOf_28 3 rfl ?_
        refine x_get (v := .ref (y + 1)) dX12_choiceOf_29 fX12_9 (hM1.1) rfl ?_
        refine x_bipush dX12_choiceOf_32 kb_8 ?_
        refine x_ialdN (n := 9) (f := scal hl r sc) dX12_choiceOf_34 (hM1.c1) (by decide) (by decide) ?_
        refine x_topi (y := sc.2.2) rfl ?_
        refine x_topi (y := nI w) hfo ?_
        refine x_iconst dX12_choiceOf_35 ki_m1 ?_
        refine x_icmp_ne (x := nI w) (y := (-1)) (tgt := 54) dX12_choiceOf_36 (by decide) (fun c36 => ?_) (fun c36 => ?_)
        · refine x_aload_n dX12_choiceOf_54 3 rfl ?_
          refine x_iload_n dX12_choiceOf_55 4 rfl ?_
          refine x_pc (pc' := 56) rfl ?_
          refine x_iload dX12_choiceOf_56 0 rfl ?_
          refine x_cVe (N := mX12_sumOf) (d' := 4) (mc := 0) (ms := 0) (cb := 0) (sb := 0) (As := [.int (nI q), .int (nI t)]) (st := []) dX12_choiceOf_58 mX12_sumOf_v lX12_388 rfl rfl (hM1.1) rfl (by decide) (Nat.le_of_ble_eq_true rfl) (Md_sumOf (hq3 := hq3) hM1 hR hfo hwf hO hq (by omega) c25) rfl (sf := fun e2 => [.long (wantF (wordOf hl r q t) cs0)]) (fun _ => rfl) (fun e2 hq2 => ?_)
          obtain ⟨⟨w2, k2⟩, G2⟩ := e2
          have hM2 : MW G0 G2 y hl r sc A F w2 k2 := hq2
          refine x_lstore (ls' := [(6, .long (wantF (wordOf hl r q t) cs0)), (5, .int (nI t)), (3, .long ((chF (canT hl r q) (fun t => wantF (wordOf hl r q t) cs0) t).2)), (2, .int (chI (chF (canT hl r q) (fun t => wantF (wordOf hl r q t) cs0) t).1)), (0, .ref y), (1, .int (nI q))]) dX12_choiceOf_61 (by decide) rfl ?_
          refine x_lload dX12_choiceOf_63 0 rfl ?_
          refine x_lload_n dX12_choiceOf_65 2 rfl ?_
          refine x_lcmp dX12_choiceOf_66 ?_
          refine x_if_le (tgt := 76) dX12_choiceOf_67 (by decide) (fun c67 => ?_) (fun c67 => ?_)
          · refine x_iinc (v := nI (t + 1)) (ls' := [(5, .int (nI (t + 1))), (6, .long (wantF (wordOf hl r q t) cs0)), (3, .long ((chF (canT hl r q) (fun t => wantF (wordOf hl r q t) cs0) t).2)), (2, .int (chI (chF (canT hl r q) (fun t => wantF (wordOf hl r q t) cs0) t).1)), (0, .ref y), (1, .int (nI q))]) dX12_choiceOf_76 1 rfl (nIs _) (by decide) rfl ?_
            refine x_goto (tgt := 7) dX12_choiceOf_79 (by decide) ?_
            refine x_perm (ls' := [(5, .int (nI (t + 1))), (3, .long ((chF (canT hl r q) (fun t => wantF (wordOf hl r q t) cs0) t).2)), (2, .int (chI (chF (canT hl r q) (fun t => wantF (wordOf hl r q t) cs0) t).1)), (0, .ref y), (1, .int (nI q))]) [0, 2, 3, 4, 5] rfl ?_
            have hch : (chF (canT hl r q) (fun t => wantF (wordOf hl r q t) cs0) (t + 1)) = _ := if_neg (fun e => absurd e.2 (Int64.not_lt.mpr ((lg_cmp_le _ _).mp c67)))
            refine x_leq (ls' := [(5, .int (nI (t + 1))), (3, .long (chF (canT hl r q) (fun t => wantF (wordOf hl r q t) cs0) (t + 1)).2), (2, .int (chI (chF (canT hl r q) (fun t => wantF (wordOf hl r q t) cs0) (t + 1)).1)), (0, .ref y), (1, .int (nI q))]) (by rw [hch]) ?_
            exact ih (t + 1) _ _ _ (by omega) hM2
          · refine x_iload dX12_choiceOf_70 1 rfl ?_
            refine x_istore_n (ls' := [(2, .int (nI t)), (6, .long (wantF (wordOf hl r q t) cs0)), (5, .int (nI t)), (3, .long ((chF (canT hl r q) (fun t => wantF (wordOf hl r q t) cs0) t).2)), (0, .ref y), (1, .int (nI q))]) dX12_choiceOf_72 (by decide) rfl ?_
            refine x_lload dX12_choiceOf_73 1 rfl ?_
            refine x_pc (pc' := 75) rfl ?_
            refine x_lstore_n (ls' := [(3, .long (wantF (wordOf hl r q t) cs0)), (2, .int (nI t)), (6, .long (wantF (wordOf hl r q t) cs0)), (5, .int (nI t)), (0, .ref y), (1, .int (nI q))]) dX12_choiceOf_75 (by decide) rfl ?_
            refine x_iinc (v := nI (t + 1)) (ls' := [(5, .int (nI (t + 1))), (3, .long (wantF (wordOf hl r q t) cs0)), (2, .int (nI t)), (6, .long (wantF (wordOf hl r q t) cs0)), (0, .ref y), (1, .int (nI q))]) dX12_choiceOf_76 3 rfl (nIs _) (by decide) rfl ?_
            refine x_goto (tgt := 7) dX12_choiceOf_79 (by decide) ?_
            refine x_perm (ls' := [(5, .int (nI (t + 1))), (3, .long (wantF (wordOf hl r q t) cs0)), (2, .int (nI t)), (0, .ref y), (1, .int (nI q))]) [0, 1, 2, 4, 5] rfl ?_
            have hch : (chF (canT hl r q) (fun t => wantF (wordOf hl r q t) cs0) (t + 1)) = _ := if_pos ⟨c25, Int64.not_le.mp (fun e => c67 ((lg_cmp_le _ _).mpr e))⟩
            refine x_leq (ls' := [(5, .int (nI (t + 1))), (3, .long (chF (canT hl r q) (fun t => wantF (wordOf hl r q t) cs0) (t + 1)).2), (2, .int (chI (chF (canT hl r q) (fun t => wantF (wordOf hl r q t) cs0) (t + 1)).1)), (0, .ref y), (1, .int (nI q))]) (by rw [hch]; rfl) ?_
            exact ih (t + 1) _ _ _ (by omega) hM2
        · exact absurd c36 (nI_ne1 (by have := hR.1; omega))
theorem Md_choice_s {K : xG} {h y : Nat} {G0 G : xHp} {hl : xHl} {r : xRw} {sc : Nat × Nat × Int32} {A : Nat → Nat → Int32} {F : Nat → Int32} {q w : Nat} {cs0 : List (List Nat × List Nat)} {wa sa : Nat → Int64} (hM : MW G0 G y hl r sc A F wa sa) (hO : HallOk hl) (hq : q < 4) (hq3 : q < hl 0 3) (hR : RefR A w cs0) (hfo : sc.2.2 = nI w) (hwf : ∀ (wd : Nat → Int64) c, c ∈ cs0 → WfC wd c) : xCall K mX12_choiceOf 5 0 0 [.ref y, .int (nI q)] h G (mdX G0 h y (some (.int (chI (chF (canT hl r q) (fun t => wantF (wordOf hl r q t) cs0) (hl 0 4)).1))) hl r sc A F) := by
  refine x_entry (by decide) (ls := [(0, .ref y), (1, .int (nI q))]) rfl (Nat.le_of_ble_eq_true rfl) ?_
  refine x_iconst dX12_choiceOf_0 ki_m1 ?_
  refine x_istore_n (ls' := [(2, .int (-1)), (0, .ref y), (1, .int (nI q))]) dX12_choiceOf_1 (by decide) rfl ?_
  refine x_lconst (v := 0) dX12_choiceOf_2 rfl ?_
  refine x_lstore_n (ls' := [(3, .long 0), (2, .int (-1)), (0, .ref y), (1, .int (nI q))]) dX12_choiceOf_3 (by decide) rfl ?_
  refine x_iconst dX12_choiceOf_4 ki_0 ?_
  refine x_istore (ls' := [(5, .int (nI 0)), (3, .long 0), (2, .int (-1)), (0, .ref y), (1, .int (nI q))]) dX12_choiceOf_5 (by decide) rfl ?_
  refine x_leq (ls' := [(5, .int (nI 0)), (3, .long (chF (canT hl r q) (fun t => wantF (wordOf hl r q t) cs0) 0).2), (2, .int (chI (chF (canT hl r q) (fun t => wantF (wordOf hl r q t) cs0) 0).1)), (0, .ref y), (1, .int (nI q))]) rfl ?_
  exact Md_choice_s1 (hq3 := hq3) hO hq hR hfo hwf (hl 0 4) 0 wa sa G (by omega) hM
theorem Md_choiceOf {K : xG} {h y : Nat} {G0 G : xHp} {hl : xHl} {r : xRw} {sc : Nat × Nat × Int32} {A : Nat → Nat → Int32} {F : Nat → Int32} {wa sa : Nat → Int64} {q : Nat} {rv : Option (List Nat)} (hM : MW G0 G y hl r sc A F wa sa) (hO : HallOk hl) (hq : q < 4) (hq3 : q < hl 0 3) (hV : RvR A sc rv) : xCall K mX12_choiceOf 5 0 0 [.ref y, .int (nI q)] h G (mdX G0 h y (some (.int (chI (choice hl rv r q)))) hl r sc A F) := by
  rcases hV with ⟨h1, h2⟩ | ⟨w, cs, sp, h1, h2, h3, h4, h5⟩
  · subst h2
    rw [← choice_0 (fun t ht => (hO.2.2.2.1 t ht).2.2.1)]
    exact Md_choice_n hM hO hq h1
  · subst h2
    rw [← choice_s h5]
    exact Md_choice_s (hq3 := hq3) hM hO hq h3 h1 h4
