theorem Md_cr_in {K : xG} {h y : Nat} {G0 G : xHp} {hl : xHl} {sc : Nat × Nat × Int32} {A : Nat → Nat → Int32} {F : Nat → Int32} {wa sa : Nat → Int64} {rv : Option (List Nat)} {v w : Int32} {n : Nat} {Q : xPost} {f : Nat → Int32} (hM : MW G0 G y hl (goN hl rv (clearR hl) (n + 1)) (sc.1, sc.2.1, v) (setA A 42 f) F wa sa) (hO : HallOk hl) {bk : Nat → Nat → Nat} {bn : Nat} (hsc : sc.1 = bn) (hbk : BkR A bk bn) (hbo : BkOk hl bk bn) (hn : n < 400) (next : xV K mX12_couldRule 8 0 0 h G 95 [(5, .int (nI bn)), (4, .int (nI n)), (3, .int (bI (fitK hl rv bk bn (n + 1) 0))), (0, .ref y), (1, .int v), (2, .int w)] [] (Q)) : ∀ (i k : Nat), k + i = bn → xV K mX12_couldRule 8 0 0 h G 33 [(5, .int (nI k)), (4, .int (nI n)), (3, .int (bI (fitK hl rv bk bn n k))), (0, .ref y), (1, .int v), (2, .int w)] [] (Q) := by
  obtain ⟨o2, o3, o4, o5, o6, o7, o8, o9⟩ := id hO
  obtain ⟨hb10, hbo2⟩ := id hbo
  intro i
  induction i with
  | zero =>
    intro k hi
    have hi0 : k = bn := by omega
    subst hi0
    refine x_iload dX12_couldRule_33 0 rfl ?_
    refine x_aload_n dX12_couldRule_35 3 rfl ?_
    refine x_get (v := .ref (y + 1)) dX12_couldRule_36 fX12_9 (hM.1) rfl ?_
    refine x_bipush dX12_couldRule_39 kb_6 ?_
    refine x_ialdN (n := 9) (f := scal hl (goN hl rv (clearR hl) (n + 1)) (sc.1, sc.2.1, v)) dX12_couldRule_41 (hM.c1) (by decide) (by decide) ?_
    refine x_topi (y := nI ((sc.1, sc.2.1, v).1)) rfl ?_
    refine x_topi (y := nI k) (by rw [← hsc]) ?_
    refine x_icmpN_ge (tgt := 95) dX12_couldRule_42 (by decide) (by omega) (by omega) (fun c42 => ?_) (fun c42 => ?_)
    · rw [fk_end]
      exact next
    · exact absurd c42 (by omega)
  | succ i ih =>
    intro k hi
    obtain ⟨b1, b2, b3⟩ := hbo2 k (by omega)
    refine x_iload dX12_couldRule_33 0 rfl ?_
    refine x_aload_n dX12_couldRule_35 3 rfl ?_
    refine x_get (v := .ref (y + 1)) dX12_couldRule_36 fX12_9 (hM.1) rfl ?_
    refine x_bipush dX12_couldRule_39 kb_6 ?_
    refine x_ialdN (n := 9) (f := scal hl (goN hl rv (clearR hl) (n + 1)) (sc.1, sc.2.1, v)) dX12_couldRule_41 (hM.c1) (by decide) (by decide) ?_
    refine x_topi (y := nI ((sc.1, sc.2.1, v).1)) rfl ?_
    refine x_topi (y := nI bn) (by rw [← hsc]) ?_
    refine x_icmpN_ge (tgt := 95) dX12_couldRule_42 (by decide) (by omega) (by omega) (fun c42 => ?_) (fun c42 => ?_)
    · exact absurd c42 (by omega)
    · refine x_iload_n dX12_couldRule_45 2 rfl ?_
      refine x_ifB_eq (tgt := 87) dX12_couldRule_46 (by decide) (fun c46 => ?_) (fun c46 => ?_)
      · refine x_iconst dX12_couldRule_87 ki_0 ?_
        refine x_topi (y := bI false) rfl ?_
        refine x_pc (pc' := 88) rfl ?_
        refine x_istore_n (ls' := [(3, .int (bI false)), (5, .int (nI k)), (4, .int (nI n)), (0, .ref y), (1, .int v), (2, .int w)]) dX12_couldRule_88 (by decide) rfl ?_
        refine x_iinc (v := nI (k + 1)) (ls' := [(5, .int (nI (k + 1))), (3, .int (bI false)), (4, .int (nI n)), (0, .ref y), (1, .int v), (2, .int w)]) dX12_couldRule_89 1 rfl (nIs _) (by decide) rfl ?_
        refine x_goto (tgt := 33) dX12_couldRule_92 (by decide) ?_
        refine x_perm (ls' := [(5, .int (nI (k + 1))), (4, .int (nI n)), (3, .int (bI false)), (0, .ref y), (1, .int v), (2, .int w)]) [0, 2, 1, 3, 4, 5] rfl ?_
        have hfk : fitK hl rv bk bn n (k + 1) = false := fk_f c46
        have hih := ih (k + 1) (by omega)
        rw [hfk] at hih
        exact hih
      · refine x_aload_n dX12_couldRule_49 3 rfl ?_
        refine x_pc (pc' := 50) rfl ?_
        refine x_get (v := .ref (y + 15)) dX12_couldRule_50 fX12_52 (hM.1) rfl ?_
        refine x_iload dX12_couldRule_53 0 rfl ?_
        refine x_ialdN (n := 10) (f := A 15) dX12_couldRule_55 (hM.c15) (by omega) (by decide) ?_
        refine x_topi (y := nI (bk 0 k)) ((hbk k (by omega)).1) ?_
        refine x_iload dX12_couldRule_56 1 rfl ?_
        refine x_icmpN_ne (tgt := 83) dX12_couldRule_58 (by decide) (by omega) (by omega) (fun c58 => ?_) (fun c58 => ?_)
        · refine x_iconst dX12_couldRule_83 ki_1 ?_
          refine x_goto (tgt := 88) dX12_couldRule_84 (by decide) ?_
          refine x_topi (y := bI true) rfl ?_
          refine x_istore_n (ls' := [(3, .int (bI true)), (5, .int (nI k)), (4, .int (nI n)), (0, .ref y), (1, .int v), (2, .int w)]) dX12_couldRule_88 (by decide) rfl ?_
          refine x_iinc (v := nI (k + 1)) (ls' := [(5, .int (nI (k + 1))), (3, .int (bI true)), (4, .int (nI n)), (0, .ref y), (1, .int v), (2, .int w)]) dX12_couldRule_89 1 rfl (nIs _) (by decide) rfl ?_
          refine x_goto (tgt := 33) dX12_couldRule_92 (by decide) ?_
          refine x_perm (ls' := [(5, .int (nI (k + 1))), (4, .int (nI n)), (3, .int (bI true)), (0, .ref y), (1, .int v), (2, .int w)]) [0, 2, 1, 3, 4, 5] rfl ?_
          have hfk : fitK hl rv bk bn n (k + 1) = true := fk_ne c46 c58
          have hih := ih (k + 1) (by omega)
          rw [hfk] at hih
          exact hih
        · refine x_aload_n dX12_couldRule_61 3 rfl ?_
          refine x_get (v := .ref (y + 13)) dX12_couldRule_62 fX12_46 (hM.1) rfl ?_
          refine x_aload_n dX12_couldRule_65 3 rfl ?_
          refine x_get (v := .ref (y + 16)) dX12_couldRule_66 fX12_55 (hM.1) rfl ?_
          refine x_iload dX12_couldRule_69 0 rfl ?_
          refine x_pc (pc' := 71) rfl ?_
          refine x_ialdN (n := 10) (f := A 16) dX12_couldRule_71 (hM.c16) (by omega) (by decide) ?_
          refine x_topi (y := nI (bk 1 k)) ((hbk k (by omega)).2.1) ?_
          refine x_ialdN (n := 7) (f := blk (goN hl rv (clearR hl) (n + 1)) 21 7) dX12_couldRule_72 (hM.c13) (by omega) (by decide) ?_
          refine x_topi (y := (goN hl rv (clearR hl) (n + 1)) (21 + (bk 1 k))) (blk_at (by omega)) ?_
          refine x_aload_n dX12_couldRule_73 3 rfl ?_
          refine x_get (v := .ref (y + 17)) dX12_couldRule_74 fX12_58 (hM.1) rfl ?_
          refine x_iload dX12_couldRule_77 0 rfl ?_
          refine x_ialdN (n := 10) (f := A 17) dX12_couldRule_79 (hM.c17) (by omega) (by decide) ?_
          refine x_topi (y := nI (bk 2 k)) ((hbk k (by omega)).2.2) ?_
          refine x_icmp_ne (x := (goN hl rv (clearR hl) (n + 1)) (21 + (bk 1 k))) (y := nI (bk 2 k)) (tgt := 87) dX12_couldRule_80 (by decide) (fun c80 => ?_) (fun c80 => ?_)
          · refine x_iconst dX12_couldRule_87 ki_0 ?_
            refine x_topi (y := bI false) rfl ?_
            refine x_istore_n (ls' := [(3, .int (bI false)), (5, .int (nI k)), (4, .int (nI n)), (0, .ref y), (1, .int v), (2, .int w)]) dX12_couldRule_88 (by decide) rfl ?_
            refine x_iinc (v := nI (k + 1)) (ls' := [(5, .int (nI (k + 1))), (3, .int (bI false)), (4, .int (nI n)), (0, .ref y), (1, .int v), (2, .int w)]) dX12_couldRule_89 1 rfl (nIs _) (by decide) rfl ?_
            refine x_pc (pc' := 92) rfl ?_
            refine x_goto (tgt := 33) dX12_couldRule_92 (by decide) ?_
            refine x_perm (ls' := [(5, .int (nI (k + 1))), (4, .int (nI n)), (3, .int (bI false)), (0, .ref y), (1, .int v), (2, .int w)]) [0, 2, 1, 3, 4, 5] rfl ?_
            have hok : ¬ okB hl rv bk k := fun q0 => c80 (by unfold okB at q0; rw [c58] at q0; exact q0)
            have hfk : fitK hl rv bk bn n (k + 1) = false := fk_no (by omega) c58 hok
            have hih := ih (k + 1) (by omega)
            rw [hfk] at hih
            exact hih
          · refine x_iconst dX12_couldRule_83 ki_1 ?_
            refine x_goto (tgt := 88) dX12_couldRule_84 (by decide) ?_
            refine x_topi (y := bI true) rfl ?_
            refine x_istore_n (ls' := [(3, .int (bI true)), (5, .int (nI k)), (4, .int (nI n)), (0, .ref y), (1, .int v), (2, .int w)]) dX12_couldRule_88 (by decide) rfl ?_
            refine x_pc (pc' := 89) rfl ?_
            refine x_iinc (v := nI (k + 1)) (ls' := [(5, .int (nI (k + 1))), (3, .int (bI true)), (4, .int (nI n)), (0, .ref y), (1, .int v), (2, .int w)]) dX12_couldRule_89 1 rfl (nIs _) (by decide) rfl ?_
            refine x_goto (tgt := 33) dX12_couldRule_92 (by decide) ?_
            refine x_perm (ls' := [(5, .int (nI (k + 1))), (4, .int (nI n)), (3, .int (bI true)), (0, .ref y), (1, .int v), (2, .int w)]) [0, 2, 1, 3, 4, 5] rfl ?_
            have hok : okB hl rv bk k := by unfold okB; rw [c58]; exact c80
            have hfk : fitK hl rv bk bn n (k + 1) = true := fk_ok c46 hok
            have hih := ih (k + 1) (by omega)
            rw [hfk] at hih
            exact hih
theorem Md_cr_loop {K : xG} {h y : Nat} {G0 : xHp} {hl : xHl} {r : xRw} {sc : Nat × Nat × Int32} {A : Nat → Nat → Int32} {F : Nat → Int32} {v w : Int32} {rv : Option (List Nat)} (hk : Kept (A 44) hl r sc) (hb : ∀ i j, hl i j < 1000000) (hO : HallOk hl) (hV : RvR A (sc.1, sc.2.1, v) rv) {bk : Nat → Nat → Nat} {bn : Nat} (hsc : sc.1 = bn) (hbk : BkR A bk bn) (hbo : BkOk hl bk bn) (hp2 : ∀ s, s < hl 0 2 → hl 2 s < 200) : ∀ (i n : Nat) (f : Nat → Int32) (w1 k1 : Nat → Int64) (G1 : xHp), n + i = 400 → ShR f hl rv w n → MW G0 G1 y hl (goN hl rv (clearR hl) n) (sc.1, sc.2.1, v) (setA A 42 f) F w1 k1 → xV K mX12_couldRule 8 0 0 h G1 17 [(4, .int (nI n)), (3, .int (bI (fitK hl rv bk bn n 0))), (0, .ref y), (1, .int v), (2, .int w)] [] (xEx (fun e : ((Nat → Int32) × (Nat → Int32)) × ((Nat → Int64) × (Nat → Int64)) × xHp => MW G0 e.2.2 y hl r sc (setA A 42 e.1.1) e.1.2 e.2.1.1 e.2.1.2 ∧ FS F e.1.2 ∧ ShR e.1.1 hl rv w 400) (fun _ => some (.int (bI (fitB hl bk bn rv)))) (fun _ => h) (fun e => e.2.2)) := by
  obtain ⟨o2, o3, o4, o5, o6, o7, o8, o9⟩ := id hO
  have hcl := clear_ok hO hp2
  intro i
  induction i with
  | zero =>
    intro n f w1 k1 G1 hi hsh hN
    have hi0 : n = 400 := by omega
    subst hi0
    refine x_iload dX12_couldRule_17 0 rfl ?_
    refine x_sipush dX12_couldRule_19 ks_399 ?_
    refine x_icmpN_gt (tgt := 118) dX12_couldRule_22 (by decide) (by omega) (by omega) (fun c22 => ?_) (fun c22 => ?_)
    · refine x_aload_n dX12_couldRule_118 2 rfl ?_
      refine x_cVe (N := mX12_laysBack) (d' := 2) (mc := 0) (ms := 0) (cb := 0) (sb := 0) (As := []) (st := []) dX12_couldRule_119 mX12_laysBack_v lX12_450 rfl rfl (hN.1) rfl (by decide) (Nat.le_of_ble_eq_true rfl) (Md_laysBack (sc := sc) (r := r) hN hk hb) rfl (sf := fun G3 => []) (fun _ => rfl) (fun G3 hq3 => ?_)
      have hN3 : MW G0 G3 y hl r sc (setA A 42 f) (cF F 1 3650) w1 k1 := by have e := hq3; rw [lbH_self] at e; exact e
      refine x_iload_n dX12_couldRule_122 1 rfl ?_
      exact x_zret dX12_couldRule_123 rfl (by first | rfl | decide | exact bI_nar _) (xEx_i ((f, cF F 1 3650), (w1, k1), G3) ⟨hN3, ⟨rfl, rfl, rfl, rfl⟩, hsh⟩ (by rw [fk_400 (fun k hk2 => (hbo.2 k hk2).1)]) rfl rfl)
    · exact absurd c22 (by decide)
  | succ i ih =>
    intro n f w1 k1 G1 hi hsh hN
    refine x_iload dX12_couldRule_17 0 rfl ?_
    refine x_sipush dX12_couldRule_19 ks_399 ?_
    refine x_icmpN_gt (tgt := 118) dX12_couldRule_22 (by decide) (by omega) (by omega) (fun c22 => ?_) (fun c22 => ?_)
    · exact absurd c22 (by omega)
    · refine x_aload_n dX12_couldRule_25 2 rfl ?_
      refine x_cVe (N := mX12_goes) (d' := 7) (mc := 0) (ms := 0) (cb := 0) (sb := 0) (As := []) (st := []) dX12_couldRule_26 mX12_goes_v lX12_404 rfl rfl (hN.1) rfl (by decide) (Nat.le_of_ble_eq_true rfl) (Md_goes hN hO (hV.set (by omega)) (goN_ok hO hcl n)) rfl (sf := fun e2 => [.int ((goMin hl rv (goN hl rv (clearR hl) n)).2)]) (fun _ => rfl) (fun e2 hq2 => ?_)
      obtain ⟨⟨w2, k2⟩, G2⟩ := e2
      have hN2 : MW G0 G2 y hl (goN hl rv (clearR hl) (n + 1)) (sc.1, sc.2.1, v) (setA A 42 f) F w2 k2 := hq2
      refine x_pop dX12_couldRule_29 rfl ?_
      refine x_iconst dX12_couldRule_30 ki_0 ?_
      refine x_istore (ls' := [(5, .int (nI 0)), (4, .int (nI n)), (3, .int (bI (fitK hl rv bk bn n 0))), (0, .ref y), (1, .int v), (2, .int w)]) dX12_couldRule_31 (by decide) rfl ?_
      refine Md_cr_in hN2 hO hsc hbk hbo (by omega) ?_ bn 0 (by omega)
      refine x_iload dX12_couldRule_95 1 rfl ?_
      refine x_iload_n dX12_couldRule_97 5 rfl ?_
      refine x_icmp_ne (x := nI n) (y := w) (tgt := 112) dX12_couldRule_98 (by decide) (fun c98 => ?_) (fun c98 => ?_)
      · refine x_iinc (v := nI (n + 1)) (ls' := [(4, .int (nI (n + 1))), (5, .int (nI bn)), (3, .int (bI (fitK hl rv bk bn (n + 1) 0))), (0, .ref y), (1, .int v), (2, .int w)]) dX12_couldRule_112 1 rfl (nIs _) (by decide) rfl ?_
        refine x_goto (tgt := 17) dX12_couldRule_115 (by decide) ?_
        refine x_perm (ls' := [(4, .int (nI (n + 1))), (3, .int (bI (fitK hl rv bk bn (n + 1) 0))), (0, .ref y), (1, .int v), (2, .int w)]) [0, 2, 3, 4, 5] rfl ?_
        exact ih (n + 1) f _ _ _ (by omega) (sh_ne hsh c98) hN2
      · refine x_aload_n dX12_couldRule_101 3 rfl ?_
        refine x_get (v := .ref (y + 13)) dX12_couldRule_102 fX12_46 (hN2.1) rfl ?_
        refine x_aload_n dX12_couldRule_105 3 rfl ?_
        refine x_get (v := .ref (y + 42)) dX12_couldRule_106 fX12_139 (hN2.1) rfl ?_
        refine x_cS (N := mX12_copies) (d' := 0) (mc := 0) (ms := 0) (cb := 0) (sb := 0) (As := [.ref (y + 13), .ref (y + 42)]) (st := []) dX12_couldRule_109 mX12_copies_s lX12_317 rfl (by decide) (Nat.le_of_ble_eq_true rfl) (Md_copies (n := 7) (f := blk (goN hl rv (clearR hl) (n + 1)) 21 7) (g := f) (hN2.c13) (hN2.c42) (by omega) (by decide)) rfl (st1 := []) rfl ?_
        have hM1a := hN2.a42 (cpF (blk (goN hl rv (clearR hl) (n + 1)) 21 7) f 7)
        rw [setA_up] at hM1a
        have hM1 := hM1a
        refine x_iinc (v := nI (n + 1)) (ls' := [(4, .int (nI (n + 1))), (5, .int (nI bn)), (3, .int (bI (fitK hl rv bk bn (n + 1) 0))), (0, .ref y), (1, .int v), (2, .int w)]) dX12_couldRule_112 1 rfl (nIs _) (by decide) rfl ?_
        refine x_pc (pc' := 115) rfl ?_
        refine x_goto (tgt := 17) dX12_couldRule_115 (by decide) ?_
        refine x_perm (ls' := [(4, .int (nI (n + 1))), (3, .int (bI (fitK hl rv bk bn (n + 1) 0))), (0, .ref y), (1, .int v), (2, .int w)]) [0, 2, 3, 4, 5] rfl ?_
        exact ih (n + 1) (cpF (blk (goN hl rv (clearR hl) (n + 1)) 21 7) f 7) _ _ _ (by omega) (sh_eq (by omega) c98) hM1
theorem Md_couldRule {K : xG} {h y : Nat} {G0 G : xHp} {hl : xHl} {r : xRw} {sc : Nat × Nat × Int32} {A : Nat → Nat → Int32} {F : Nat → Int32} {wa sa : Nat → Int64} {v w : Int32} (hM : MW G0 G y hl r sc A F wa sa) {rv : Option (List Nat)} (hk : Kept (A 44) hl r sc) (hb : ∀ i j, hl i j < 1000000) (hO : HallOk hl) (hV : RvR A (sc.1, sc.2.1, v) rv) {bk : Nat → Nat → Nat} {bn : Nat} (hsc : sc.1 = bn) (hbk : BkR A bk bn) (hbo : BkOk hl bk bn) (hp2 : ∀ s, s < hl 0 2 → hl 2 s < 200) : xCall K mX12_couldRule 8 0 0 [.ref y, .int v, .int w] h G (xEx (fun e : ((Nat → Int32) × (Nat → Int32)) × ((Nat → Int64) × (Nat → Int64)) × xHp => MW G0 e.2.2 y hl r sc (setA A 42 e.1.1) e.1.2 e.2.1.1 e.2.1.2 ∧ FS F e.1.2 ∧ ShR e.1.1 hl rv w 400) (fun _ => some (.int (bI (fitB hl bk bn rv)))) (fun _ => h) (fun e => e.2.2)) := by
  refine x_entry (by decide) (ls := [(0, .ref y), (1, .int v), (2, .int w)]) rfl (Nat.le_of_ble_eq_true rfl) ?_
  refine x_aload_n dX12_couldRule_0 0 rfl ?_
  refine x_get (v := .ref (y + 1)) dX12_couldRule_1 fX12_9 (hM.1) rfl ?_
  refine x_bipush dX12_couldRule_4 kb_8 ?_
  refine x_iload_n dX12_couldRule_6 1 rfl ?_
  refine x_iastN (n := 9) (f := scal hl r sc) dX12_couldRule_7 (hM.c1) (by decide) (by decide) ?_
  refine x_acong (g := scal hl r (sc.1, sc.2.1, v)) scal_8 ?_
  refine x_gen (P := fun G' => MW G0 G' y hl r (sc.1, sc.2.1, v) A F wa sa) (hM.s1c (sc.1, sc.2.1, v)) (fun G1 hN1 => ?_)
  refine x_aload_n dX12_couldRule_8 0 rfl ?_
  refine x_cVe (N := mX12_begins) (d' := 1) (mc := 0) (ms := 0) (cb := 0) (sb := 0) (As := []) (st := []) dX12_couldRule_9 mX12_begins_v lX12_324 rfl rfl (hN1.1) rfl (by decide) (Nat.le_of_ble_eq_true rfl) (Md_begins hN1) rfl (sf := fun G4 => []) (fun _ => rfl) (fun G4 hN4 => ?_)
  refine x_iconst dX12_couldRule_12 ki_1 ?_
  refine x_istore_n (ls' := [(3, .int (nI 1)), (0, .ref y), (1, .int v), (2, .int w)]) dX12_couldRule_13 (by decide) rfl ?_
  refine x_pc (pc' := 14) rfl ?_
  refine x_iconst dX12_couldRule_14 ki_0 ?_
  refine x_istore (ls' := [(4, .int (nI 0)), (3, .int (nI 1)), (0, .ref y), (1, .int v), (2, .int w)]) dX12_couldRule_15 (by decide) rfl ?_
  refine x_leq (ls' := [(4, .int (nI 0)), (3, .int (bI (fitK hl rv bk bn 0 0))), (0, .ref y), (1, .int v), (2, .int w)]) (by rw [fk_0]; rfl) ?_
  exact Md_cr_loop hk hb hO hV hsc hbk hbo hp2 400 0 (A 42) wa sa _ (by decide) (fun n0 h0 => absurd h0 (by omega)) (by rw [setA_self rfl]; exact hN4)
theorem Md_ruled_n {K : xG} {h y : Nat} {G0 G : xHp} {hl : xHl} {r : xRw} {sc : Nat × Nat × Int32} {A : Nat → Nat → Int32} {F : Nat → Int32} {wa sa : Nat → Int64} {w : Int32} (hM : MW G0 G y hl r sc A F wa sa) (hO : HallOk hl) (hn : ¬ (0 < hl 0 0 ∧ inR w 2 = true)) : xCall K mX12_ruled 9 0 0 [.ref y, .int w] h G (xRet (some (.int (-3))) h G) := by
  refine x_entry (by decide) (ls := [(0, .ref y), (1, .int w)]) rfl (Nat.le_of_ble_eq_true rfl) ?_
  have hB := hM.hB
  obtain ⟨o2, o3, o4, o5, o6, o7, o8, o9⟩ := id hO
  refine x_aload_n dX12_ruled_0 0 rfl ?_
  refine x_cV (N := mX12_isHall) (d' := 0) (mc := 0) (ms := 0) (cb := 0) (sb := 0) (As := []) (st := []) dX12_ruled_1 mX12_isHall_v lX12_425 rfl rfl (hM.1) rfl (by decide) (Nat.le_of_ble_eq_true rfl) (Md_isHall hM) rfl (st1 := [.int (bI (decide (0 < hl 0 0)))]) rfl ?_
  refine x_ifB_eq (tgt := 17) dX12_ruled_4 (by decide) (fun c4 => ?_) (fun c4 => ?_)
  · refine x_bipush dX12_ruled_17 kb_m3 ?_
    exact x_iret dX12_ruled_19 rfl (xRet_i)
  · refine x_iload_n dX12_ruled_7 1 rfl ?_
    refine x_i2l dX12_ruled_8 ?_
    refine x_lconst (v := 0) dX12_ruled_9 rfl ?_
    refine x_lconst (v := 1) dX12_ruled_10 rfl ?_
    refine x_cS (N := mX12_in) (d' := 0) (mc := 0) (ms := 0) (cb := 0) (sb := 0) (As := [.long w.toInt64, .long 0, .long 1]) (st := []) dX12_ruled_11 mX12_in_s lX12_155 rfl (by decide) (Nat.le_of_ble_eq_true rfl) (Md_in) rfl (st1 := [.int (bI (decide (0 ≤ w.toInt64 ∧ w.toInt64 ≤ 1)))]) rfl ?_
    refine x_ifB_ne (tgt := 20) dX12_ruled_14 (by decide) (fun c14 => ?_) (fun c14 => ?_)
    · exact absurd ⟨of_decide_eq_true c4, (in_01 w).symm.trans c14⟩ hn
    · refine x_pc (pc' := 17) rfl ?_
      refine x_bipush dX12_ruled_17 kb_m3 ?_
      exact x_iret dX12_ruled_19 rfl (xRet_i)
theorem Md_ruled_loop {K : xG} {h y : Nat} {G0 : xHp} {hl : xHl} {r : xRw} {sc : Nat × Nat × Int32} {A : Nat → Nat → Int32} {F : Nat → Int32} {w : Int32} {rs : List (List Nat)} {bk : Nat → Nat → Nat} {bn : Nat} (hO : HallOk hl) (hVs : ∀ j, j ≤ rs.length → RvR A (sc.1, sc.2.1, nI j + (-1)) (rvJ rs j)) (hr6 : rs.length ≤ 6) (hsc : sc.1 = bn) (hbk : BkR A bk bn) (hbo : BkOk hl bk bn) (hp2 : ∀ s, s < hl 0 2 → hl 2 s < 200) (hk : Kept (A 44) hl r sc) (hb : ∀ i j, hl i j < 1000000) (h31 : F 31 = nI rs.length) : ∀ (i j : Nat) (f Fx : Nat → Int32) (w1 k1 : Nat → Int64) (G1 : xHp), j + i = rs.length + 1 → FS F Fx → MW G0 G1 y hl r sc (setA A 42 f) Fx w1 k1 → xV K mX12_ruled 9 0 0 h G1 32 [(4, .int (nI j + (-1))), (3, .int (fstF (fun j => fitB hl bk bn (rvJ rs j)) j)), (2, .int (nI (cntF (fun j => fitB hl bk bn (rvJ rs j)) j))), (0, .ref y), (1, .int w)] [] (xEx (fun e : ((Nat → Int32) × (Nat → Int32)) × ((Nat → Int64) × (Nat → Int64)) × xHp => MW G0 e.2.2 y hl r sc (setA A 42 e.1.1) e.1.2 e.2.1.1 e.2.1.2 ∧ FS F e.1.2) (fun _ => some (.int (if w = 0 then nI (cntF (fun j => fitB hl bk bn (rvJ rs j)) (rs.length + 1)) else fstF (fun j => fitB hl bk bn (rvJ rs j)) (rs.length + 1)))) (fun _ => h) (fun e => e.2.2)) := by
  obtain ⟨o2, o3, o4, o5, o6, o7, o8, o9⟩ := id hO
  intro i
  induction i with
  | zero =>
    intro j f Fx w1 k1 G1 hi hfs hN
    have hi0 : j = rs.length + 1 := by omega
    subst hi0
    have hcl := cnt_le (p := (fun j => fitB hl bk bn (rvJ rs j))) (rs.length + 1)
    refine x_iload dX12_ruled_32 0 rfl ?_
    refine x_aload_n dX12_ruled_34 3 rfl ?_
    refine x_get (v := .int (Fx 31)) dX12_ruled_35 fX12_340 (hN.1) rfl ?_
    refine x_topi (y := nI rs.length) (hfs.2.1.trans h31) ?_
    refine x_icmp_ge (x := nI (rs.length + 1) + (-1)) (y := nI rs.length) (tgt := 71) dX12_ruled_38 (by decide) (fun c38 => ?_) (fun c38 => ?_)
    · refine x_iload_n dX12_ruled_71 4 rfl ?_
      refine x_if_ne (tgt := 79) dX12_ruled_72 (by decide) (fun c72 => ?_) (fun c72 => ?_)
      · refine x_iload_n dX12_ruled_79 1 rfl ?_
        exact x_iret dX12_ruled_80 rfl (xEx_i ((f, Fx), (w1, k1), G1) ⟨hN, hfs⟩ (by rw [if_neg (show ¬ w = 0 from c72)]) rfl rfl)
      · refine x_iload_n dX12_ruled_75 2 rfl ?_
        refine x_goto (tgt := 80) dX12_ruled_76 (by decide) ?_
        exact x_iret dX12_ruled_80 rfl (xEx_i ((f, Fx), (w1, k1), G1) ⟨hN, hfs⟩ (by rw [if_pos (show w = 0 from c72)]) rfl rfl)
    · exact absurd ((j_ge (j := rs.length + 1) (rc := rs.length) (by omega) (by omega)).mpr (by omega)) c38
  | succ i ih =>
    intro j f Fx w1 k1 G1 hi hfs hN
    have hcl := cnt_le (p := (fun j => fitB hl bk bn (rvJ rs j))) j
    refine x_iload dX12_ruled_32 0 rfl ?_
    refine x_aload_n dX12_ruled_34 3 rfl ?_
    refine x_get (v := .int (Fx 31)) dX12_ruled_35 fX12_340 (hN.1) rfl ?_
    refine x_topi (y := nI rs.length) (hfs.2.1.trans h31) ?_
    refine x_icmp_ge (x := nI j + (-1)) (y := nI rs.length) (tgt := 71) dX12_ruled_38 (by decide) (fun c38 => ?_) (fun c38 => ?_)
    · exact absurd ((j_ge (j := j) (rc := rs.length) (by omega) (by omega)).mp c38) (by omega)
    · refine x_aload_n dX12_ruled_41 3 rfl ?_
      refine x_iload dX12_ruled_42 0 rfl ?_
      refine x_iconst dX12_ruled_44 ki_m1 ?_
      refine x_cVe (N := mX12_couldRule) (d' := 8) (mc := 0) (ms := 0) (cb := 0) (sb := 0) (As := [.int (nI j + (-1)), .int (-1)]) (st := []) dX12_ruled_45 mX12_couldRule_v lX12_488 rfl rfl (hN.1) rfl (by decide) (Nat.le_of_ble_eq_true rfl) (Md_couldRule (rv := rvJ rs j) (bk := bk) (bn := bn) hN hk hb hO ((hVs j (by omega)).set (by omega)) hsc (hbk.cong rfl rfl rfl) hbo hp2) rfl (sf := fun e2 => [.int (bI (fitB hl bk bn (rvJ rs j)))]) (fun _ => rfl) (fun e2 hqx => ?_)
      obtain ⟨⟨f2, F2⟩, ⟨w2, k2⟩, G2⟩ := e2
      obtain ⟨hq2, hq3, hq4⟩ := hqx
      have hN2 : MW G0 G2 y hl r sc (setA A 42 f2) F2 w2 k2 := by have e := hq2; rw [setA_up] at e; exact e
      have hfs2 : FS F F2 := hfs.tr hq3
      refine x_ifB_eq (tgt := 65) dX12_ruled_48 (by decide) (fun c48 => ?_) (fun c48 => ?_)
      · refine x_pc (pc' := 65) rfl ?_
        refine x_iinc (v := nI j + (-1) + (1)) (ls' := [(4, .int (nI j + (-1) + (1))), (3, .int (fstF (fun j => fitB hl bk bn (rvJ rs j)) j)), (2, .int (nI (cntF (fun j => fitB hl bk bn (rvJ rs j)) j))), (0, .ref y), (1, .int w)]) dX12_ruled_65 0 rfl rfl (by decide) rfl ?_
        refine x_goto (tgt := 32) dX12_ruled_68 (by decide) ?_
        have e1 : fstF (fun j => fitB hl bk bn (rvJ rs j)) (j + 1) = fstF (fun j => fitB hl bk bn (rvJ rs j)) j := fstF_k (fun q0 => by have := q0.1; exact absurd (c48.symm.trans this) (by decide))
        have e2 : cntF (fun j => fitB hl bk bn (rvJ rs j)) (j + 1) = cntF (fun j => fitB hl bk bn (rvJ rs j)) j := (cntF_f (p := (fun j => fitB hl bk bn (rvJ rs j))) c48).symm
        have hih := ih (j + 1) f2 F2 w2 k2 G2 (by omega) hfs2 hN2
        rw [e1, e2, ← j_s j] at hih
        exact hih
      · refine x_pc (pc' := 51) rfl ?_
        refine x_iload_n dX12_ruled_51 2 rfl ?_
        refine x_ifN_ne (tgt := 60) dX12_ruled_52 (by decide) (by omega) (fun c52 => ?_) (fun c52 => ?_)
        · refine x_iload_n dX12_ruled_60 1 rfl ?_
          refine x_istore_n (ls' := [(3, .int (fstF (fun j => fitB hl bk bn (rvJ rs j)) j)), (4, .int (nI j + (-1))), (2, .int (nI (cntF (fun j => fitB hl bk bn (rvJ rs j)) j))), (0, .ref y), (1, .int w)]) dX12_ruled_61 (by decide) rfl ?_
          refine x_iinc (v := nI (cntF (fun j => fitB hl bk bn (rvJ rs j)) j + 1)) (ls' := [(2, .int (nI (cntF (fun j => fitB hl bk bn (rvJ rs j)) j + 1))), (3, .int (fstF (fun j => fitB hl bk bn (rvJ rs j)) j)), (4, .int (nI j + (-1))), (0, .ref y), (1, .int w)]) dX12_ruled_62 2 rfl (nIs _) (by decide) rfl ?_
          refine x_iinc (v := nI j + (-1) + (1)) (ls' := [(4, .int (nI j + (-1) + (1))), (2, .int (nI (cntF (fun j => fitB hl bk bn (rvJ rs j)) j + 1))), (3, .int (fstF (fun j => fitB hl bk bn (rvJ rs j)) j)), (0, .ref y), (1, .int w)]) dX12_ruled_65 2 rfl rfl (by decide) rfl ?_
          refine x_goto (tgt := 32) dX12_ruled_68 (by decide) ?_
          refine x_perm (ls' := [(4, .int (nI j + (-1) + (1))), (3, .int (fstF (fun j => fitB hl bk bn (rvJ rs j)) j)), (2, .int (nI (cntF (fun j => fitB hl bk bn (rvJ rs j)) j + 1))), (0, .ref y), (1, .int w)]) [0, 2, 1, 3, 4] rfl ?_
          have e2 : cntF (fun j => fitB hl bk bn (rvJ rs j)) (j + 1) = cntF (fun j => fitB hl bk bn (rvJ rs j)) j + 1 := (cntF_t (p := (fun j => fitB hl bk bn (rvJ rs j))) c48).symm
          have e1 : fstF (fun j => fitB hl bk bn (rvJ rs j)) (j + 1) = fstF (fun j => fitB hl bk bn (rvJ rs j)) j := fstF_k (fun q0 => c52 q0.2)
          have hih := ih (j + 1) f2 F2 w2 k2 G2 (by omega) hfs2 hN2
          rw [e1, e2, ← j_s j] at hih
          exact hih
        · refine x_iload dX12_ruled_55 0 rfl ?_
          refine x_goto (tgt := 61) dX12_ruled_57 (by decide) ?_
          refine x_istore_n (ls' := [(3, .int (nI j + (-1))), (4, .int (nI j + (-1))), (2, .int (nI (cntF (fun j => fitB hl bk bn (rvJ rs j)) j))), (0, .ref y), (1, .int w)]) dX12_ruled_61 (by decide) rfl ?_
          refine x_iinc (v := nI (cntF (fun j => fitB hl bk bn (rvJ rs j)) j + 1)) (ls' := [(2, .int (nI (cntF (fun j => fitB hl bk bn (rvJ rs j)) j + 1))), (3, .int (nI j + (-1))), (4, .int (nI j + (-1))), (0, .ref y), (1, .int w)]) dX12_ruled_62 2 rfl (nIs _) (by decide) rfl ?_
          refine x_iinc (v := nI j + (-1) + (1)) (ls' := [(4, .int (nI j + (-1) + (1))), (2, .int (nI (cntF (fun j => fitB hl bk bn (rvJ rs j)) j + 1))), (3, .int (nI j + (-1))), (0, .ref y), (1, .int w)]) dX12_ruled_65 2 rfl rfl (by decide) rfl ?_
          refine x_goto (tgt := 32) dX12_ruled_68 (by decide) ?_
          refine x_perm (ls' := [(4, .int (nI j + (-1) + (1))), (3, .int (nI j + (-1))), (2, .int (nI (cntF (fun j => fitB hl bk bn (rvJ rs j)) j + 1))), (0, .ref y), (1, .int w)]) [0, 2, 1, 3, 4] rfl ?_
          have e2 : cntF (fun j => fitB hl bk bn (rvJ rs j)) (j + 1) = cntF (fun j => fitB hl bk bn (rvJ rs j)) j + 1 := (cntF_t (p := (fun j => fitB hl bk bn (rvJ rs j))) c48).symm
          have e1 : fstF (fun j => fitB hl bk bn (rvJ rs j)) (j + 1) = nI j + (-1) := fstF_n ⟨c48, c52⟩
          have hih := ih (j + 1) f2 F2 w2 k2 G2 (by omega) hfs2 hN2
          rw [e1, e2, ← j_s j] at hih
          exact hih
theorem Md_ruled_y {K : xG} {h y : Nat} {G0 G : xHp} {hl : xHl} {r : xRw} {sc : Nat × Nat × Int32} {A : Nat → Nat → Int32} {F : Nat → Int32} {wa sa : Nat → Int64} {w : Int32} (hM : MW G0 G y hl r sc A F wa sa) {rs : List (List Nat)} {bk : Nat → Nat → Nat} {bn : Nat} (hO : HallOk hl) (hVs : ∀ j, j ≤ rs.length → RvR A (sc.1, sc.2.1, nI j + (-1)) (rvJ rs j)) (hr6 : rs.length ≤ 6) (hsc : sc.1 = bn) (hbk : BkR A bk bn) (hbo : BkOk hl bk bn) (hp2 : ∀ s, s < hl 0 2 → hl 2 s < 200) (h31 : F 31 = nI rs.length) (h1 : 0 < hl 0 0) (hw : inR w 2 = true) : xCall K mX12_ruled 9 0 0 [.ref y, .int w] h G (mdK G0 h y (some (.int (if w = 0 then nI (cntF (fun j => fitB hl bk bn (rvJ rs j)) (rs.length + 1)) else fstF (fun j => fitB hl bk bn (rvJ rs j)) (rs.length + 1)))) hl r sc A F) := by
  refine x_entry (by decide) (ls := [(0, .ref y), (1, .int w)]) rfl (Nat.le_of_ble_eq_true rfl) ?_
  have hB := hM.hB
  obtain ⟨o2, o3, o4, o5, o6, o7, o8, o9⟩ := id hO
  refine x_aload_n dX12_ruled_0 0 rfl ?_
  refine x_cV (N := mX12_isHall) (d' := 0) (mc := 0) (ms := 0) (cb := 0) (sb := 0) (As := []) (st := []) dX12_ruled_1 mX12_isHall_v lX12_425 rfl rfl (hM.1) rfl (by decide) (Nat.le_of_ble_eq_true rfl) (Md_isHall hM) rfl (st1 := [.int (bI (decide (0 < hl 0 0)))]) rfl ?_
  refine x_ifB_eq (tgt := 17) dX12_ruled_4 (by decide) (fun c4 => ?_) (fun c4 => ?_)
  · exact absurd c4 (by rw [decide_eq_true h1]; decide)
  · refine x_iload_n dX12_ruled_7 1 rfl ?_
    refine x_i2l dX12_ruled_8 ?_
    refine x_lconst (v := 0) dX12_ruled_9 rfl ?_
    refine x_lconst (v := 1) dX12_ruled_10 rfl ?_
    refine x_cS (N := mX12_in) (d' := 0) (mc := 0) (ms := 0) (cb := 0) (sb := 0) (As := [.long w.toInt64, .long 0, .long 1]) (st := []) dX12_ruled_11 mX12_in_s lX12_155 rfl (by decide) (Nat.le_of_ble_eq_true rfl) (Md_in) rfl (st1 := [.int (bI (decide (0 ≤ w.toInt64 ∧ w.toInt64 ≤ 1)))]) rfl ?_
    refine x_ifB_ne (tgt := 20) dX12_ruled_14 (by decide) (fun c14 => ?_) (fun c14 => ?_)
    · refine x_pc (pc' := 20) rfl ?_
      refine x_aload_n dX12_ruled_20 0 rfl ?_
      refine x_cVe (N := mX12_keepsAll) (d' := 2) (mc := 0) (ms := 0) (cb := 0) (sb := 0) (As := []) (st := []) dX12_ruled_21 mX12_keepsAll_v lX12_441 rfl rfl (hM.1) rfl (by decide) (Nat.le_of_ble_eq_true rfl) (Md_keepsAll hM) rfl (sf := fun G1 => []) (fun _ => rfl) (fun G1 hN1 => ?_)
      refine x_iconst dX12_ruled_24 ki_0 ?_
      refine x_istore_n (ls' := [(2, .int (nI 0)), (0, .ref y), (1, .int w)]) dX12_ruled_25 (by decide) rfl ?_
      refine x_bipush dX12_ruled_26 kb_m2 ?_
      refine x_istore_n (ls' := [(3, .int (-2)), (2, .int (nI 0)), (0, .ref y), (1, .int w)]) dX12_ruled_28 (by decide) rfl ?_
      refine x_iconst dX12_ruled_29 ki_m1 ?_
      refine x_istore (ls' := [(4, .int (-1)), (3, .int (-2)), (2, .int (nI 0)), (0, .ref y), (1, .int w)]) dX12_ruled_30 (by decide) rfl ?_
      refine x_leq (ls' := [(4, .int (nI 0 + (-1))), (3, .int (fstF (fun j => fitB hl bk bn (rvJ rs j)) 0)), (2, .int (nI (cntF (fun j => fitB hl bk bn (rvJ rs j)) 0))), (0, .ref y), (1, .int w)]) rfl ?_
      refine x_post (fun v h2 G9 hq => ?_) (Md_ruled_loop (A := (setA A 44 (svI (ovr A hl r sc) 3600 9))) (F := cF F 0 3650) (w := w) (rs := rs) (bk := bk) (bn := bn) hO (fun j hj => (hVs j hj).set (by omega)) hr6 hsc (hbk.cong rfl rfl rfl) hbo hp2 (Kept_sv (A := A)) hB h31 (rs.length + 1) 0 ((setA A 44 (svI (ovr A hl r sc) 3600 9)) 42) (cF F 0 3650) wa sa G1 (by omega) FS.rf (by rw [setA_self rfl]; exact hN1))
      obtain ⟨⟨⟨f9, F9⟩, ⟨w9, k9⟩, G8⟩, ⟨hq1, hq6⟩, hq2, hq3, hq4⟩ := hq
      exact ⟨((hl, setA (setA A 44 (svI (ovr A hl r sc) 3600 9)) 42 f9, F9), (w9, k9), G8), ⟨hq1, LX.rf hB, AS.kp.st (by decide), FS.tr ⟨rfl, rfl, rfl, rfl⟩ hq6⟩, hq2, hq3, hq4⟩
    · exact absurd c14 (by rw [in_01, hw]; decide)
