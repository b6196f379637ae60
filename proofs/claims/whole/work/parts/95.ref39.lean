theorem Md_swap_n {K : xG} {h y : Nat} {G0 G : xHp} {hl : xHl} {r : xRw} {sc : Nat × Nat × Int32} {A : Nat → Nat → Int32} {F : Nat → Int32} {wa sa : Nat → Int64} {w : Int32} (hM : MW G0 G y hl r sc A F wa sa) (hO : HallOk hl) (hn : ¬ (0 < hl 0 0 ∧ inR w 3 = true)) : xCall K mX12_swap 1 0 0 [.ref y, .int w] h G (xRet (some (.int (-1))) h G) := by
  refine x_entry (by decide) (ls := [(0, .ref y), (1, .int w)]) rfl (Nat.le_of_ble_eq_true rfl) ?_
  have hB := hM.hB
  obtain ⟨o2, o3, o4, o5, o6, o7, o8, o9⟩ := id hO
  refine x_aload_n dX12_swap_0 0 rfl ?_
  refine x_cV (N := mX12_isHall) (d' := 0) (mc := 0) (ms := 0) (cb := 0) (sb := 0) (As := []) (st := []) dX12_swap_1 mX12_isHall_v lX12_425 rfl rfl (hM.1) rfl (by decide) (Nat.le_of_ble_eq_true rfl) (Md_isHall hM) rfl (st1 := [.int (bI (decide (0 < hl 0 0)))]) rfl ?_
  refine x_ifB_eq (tgt := 19) dX12_swap_4 (by decide) (fun c4 => ?_) (fun c4 => ?_)
  · refine x_iconst dX12_swap_19 ki_m1 ?_
    exact x_iret dX12_swap_20 rfl (xRet_i)
  · refine x_iload_n dX12_swap_7 1 rfl ?_
    refine x_i2l dX12_swap_8 ?_
    refine x_lconst (v := 0) dX12_swap_9 rfl ?_
    refine x_ldc2 dX12_swap_10 cX12_482 ?_
    refine x_cS (N := mX12_in) (d' := 0) (mc := 0) (ms := 0) (cb := 0) (sb := 0) (As := [.long w.toInt64, .long 0, .long (2 : Int64)]) (st := []) dX12_swap_13 mX12_in_s lX12_155 rfl (by decide) (Nat.le_of_ble_eq_true rfl) (Md_in) rfl (st1 := [.int (bI (decide (0 ≤ w.toInt64 ∧ w.toInt64 ≤ (2 : Int64))))]) rfl ?_
    refine x_ifB_ne (tgt := 21) dX12_swap_16 (by decide) (fun c16 => ?_) (fun c16 => ?_)
    · exact absurd ⟨of_decide_eq_true c4, (in_2 w).symm.trans c16⟩ hn
    · refine x_pc (pc' := 19) rfl ?_
      refine x_iconst dX12_swap_19 ki_m1 ?_
      exact x_iret dX12_swap_20 rfl (xRet_i)
theorem Md_sw_in {K : xG} {h y : Nat} {G0 G : xHp} {hl : xHl} {r : xRw} {sc : Nat × Nat × Int32} {A : Nat → Nat → Int32} {F : Nat → Int32} {wa sa : Nat → Int64} {w : Int32} {f : Nat} {B0 : Int32 × Int32 × Int32} {Q : xPost} (hM : MW G0 G y hl r sc A F wa sa) (hO : HallOk hl) (hrow : RowOk hl r) (hf : f < hl 0 3) (next : xV K mX12_swap 1 0 0 h G 230 [(5, .int (nI f)), (4, .int ((swI hl r f (hl 0 3 - (f + 1)) B0).2.2)), (3, .int ((swI hl r f (hl 0 3 - (f + 1)) B0).2.1)), (2, .int ((swI hl r f (hl 0 3 - (f + 1)) B0).1)), (0, .ref y), (1, .int w)] [] (Q)) : ∀ (k j : Nat), j + k = hl 0 3 - (f + 1) → xV K mX12_swap 1 0 0 h G 50 [(6, .int (nI (f + 1 + j))), (5, .int (nI f)), (4, .int ((swI hl r f j B0).2.2)), (3, .int ((swI hl r f j B0).2.1)), (2, .int ((swI hl r f j B0).1)), (0, .ref y), (1, .int w)] [] (Q) := by
  obtain ⟨o2, o3, o4, o5, o6, o7, o8, o9⟩ := id hO
  have hB := hM.hB
  have h31 : ∀ j, hl 3 j < 2 ^ 31 := fun j => by have := hB 3 j; omega
  intro k
  induction k with
  | zero =>
    intro j hv
    have hv0 : j = hl 0 3 - (f + 1) := by omega
    subst hv0
    refine x_iload dX12_swap_50 0 rfl ?_
    refine x_aload_n dX12_swap_52 5 rfl ?_
    refine x_get (v := .ref (y + 1)) dX12_swap_53 fX12_9 (hM.1) rfl ?_
    refine x_iconst dX12_swap_56 ki_3 ?_
    refine x_ialdN (n := 9) (f := scal hl r sc) dX12_swap_57 (hM.c1) (by decide) (by decide) ?_
    refine x_topi (y := nI (hl 0 3)) rfl ?_
    refine x_icmpN_ge (tgt := 230) dX12_swap_58 (by decide) (by omega) (by omega) (fun c58 => ?_) (fun c58 => ?_)
    · refine x_perm (ls' := [(5, .int (nI f)), (4, .int ((swI hl r f (hl 0 3 - (f + 1)) B0).2.2)), (3, .int ((swI hl r f (hl 0 3 - (f + 1)) B0).2.1)), (2, .int ((swI hl r f (hl 0 3 - (f + 1)) B0).1)), (0, .ref y), (1, .int w)]) [1, 2, 3, 4, 5, 6] rfl ?_
      exact next
    · exact absurd c58 (by omega)
  | succ k ih =>
    intro j hv
    have hs3 : f + 1 + j < hl 0 3 := by omega
    refine x_iload dX12_swap_50 0 rfl ?_
    refine x_aload_n dX12_swap_52 5 rfl ?_
    refine x_get (v := .ref (y + 1)) dX12_swap_53 fX12_9 (hM.1) rfl ?_
    refine x_iconst dX12_swap_56 ki_3 ?_
    refine x_ialdN (n := 9) (f := scal hl r sc) dX12_swap_57 (hM.c1) (by decide) (by decide) ?_
    refine x_topi (y := nI (hl 0 3)) rfl ?_
    refine x_icmpN_ge (tgt := 230) dX12_swap_58 (by decide) (by omega) (by omega) (fun c58 => ?_) (fun c58 => ?_)
    · exact absurd c58 (by omega)
    · refine x_aload_n dX12_swap_61 5 rfl ?_
      refine x_get (v := .ref (y + 5)) dX12_swap_62 fX12_22 (hM.1) rfl ?_
      refine x_iload dX12_swap_65 1 rfl ?_
      refine x_pc (pc' := 67) rfl ?_
      refine x_ialdN (n := 4) (f := blk r 5 4) dX12_swap_67 (hM.c5) (by omega) (by decide) ?_
      refine x_topi (y := r (5 + f)) (blk_at (by omega)) ?_
      refine x_iconst dX12_swap_68 ki_m1 ?_
      refine x_icmp_eq (x := r (5 + f)) (y := (-1)) (tgt := 87) dX12_swap_69 (by decide) (fun c69 => ?_) (fun c69 => ?_)
      · refine x_iconst dX12_swap_87 ki_0 ?_
        refine x_istore (ls' := [(7, .int (nI 0)), (6, .int (nI (f + 1 + j))), (5, .int (nI f)), (4, .int ((swI hl r f j B0).2.2)), (3, .int ((swI hl r f j B0).2.1)), (2, .int ((swI hl r f j B0).1)), (0, .ref y), (1, .int w)]) dX12_swap_88 (by decide) rfl ?_
        refine x_iload dX12_swap_90 0 rfl ?_
        refine x_ifN_eq (tgt := 151) dX12_swap_92 (by decide) (by omega) (fun c92 => ?_) (fun c92 => ?_)
        · refine x_iconst dX12_swap_151 ki_0 ?_
          refine x_istore (ls' := [(7, .int (nI 0)), (6, .int (nI (f + 1 + j))), (5, .int (nI f)), (4, .int ((swI hl r f j B0).2.2)), (3, .int ((swI hl r f j B0).2.1)), (2, .int ((swI hl r f j B0).1)), (0, .ref y), (1, .int w)]) dX12_swap_152 (by decide) rfl ?_
          refine x_iload dX12_swap_154 0 rfl ?_
          refine x_pc (pc' := 156) rfl ?_
          refine x_ifN_eq (tgt := 205) dX12_swap_156 (by decide) (by omega) (fun c156 => ?_) (fun c156 => ?_)
          · refine x_iconst dX12_swap_205 ki_0 ?_
            refine x_istore (ls' := [(8, .int (nI 0)), (7, .int (nI 0)), (6, .int (nI (f + 1 + j))), (5, .int (nI f)), (4, .int ((swI hl r f j B0).2.2)), (3, .int ((swI hl r f j B0).2.1)), (2, .int ((swI hl r f j B0).1)), (0, .ref y), (1, .int w)]) dX12_swap_206 (by decide) rfl ?_
            refine x_iload dX12_swap_208 0 rfl ?_
            refine x_iload_n dX12_swap_210 6 rfl ?_
            refine x_icmp_le (x := nI 0) (y := (swI hl r f j B0).1) (tgt := 224) dX12_swap_211 (by decide) (fun c211 => ?_) (fun c211 => ?_)
            · refine x_iinc (v := nI (f + 1 + j + 1)) (ls' := [(6, .int (nI (f + 1 + j + 1))), (8, .int (nI 0)), (7, .int (nI 0)), (5, .int (nI f)), (4, .int ((swI hl r f j B0).2.2)), (3, .int ((swI hl r f j B0).2.1)), (2, .int ((swI hl r f j B0).1)), (0, .ref y), (1, .int w)]) dX12_swap_224 2 rfl (nIs _) (by decide) rfl ?_
              refine x_goto (tgt := 50) dX12_swap_227 (by decide) ?_
              refine x_perm (ls' := [(6, .int (nI (f + 1 + j + 1))), (5, .int (nI f)), (4, .int ((swI hl r f j B0).2.2)), (3, .int ((swI hl r f j B0).2.1)), (2, .int ((swI hl r f j B0).1)), (0, .ref y), (1, .int w)]) [0, 3, 4, 5, 6, 7, 8] rfl ?_
              have hls := less_0 (hl := hl) (f := f) (s := (f + 1 + j)) (Or.inl c69)
              have hB2 : swI hl r f (j + 1) B0 = swI hl r f j B0 := by rw [swI_s]; exact swS_n hls c211
              have hih := ih (j + 1) (by omega)
              rw [hB2] at hih
              exact hih
            · refine x_iload dX12_swap_214 0 rfl ?_
              refine x_istore_n (ls' := [(2, .int (nI 0)), (8, .int (nI 0)), (7, .int (nI 0)), (6, .int (nI (f + 1 + j))), (5, .int (nI f)), (4, .int ((swI hl r f j B0).2.2)), (3, .int ((swI hl r f j B0).2.1)), (0, .ref y), (1, .int w)]) dX12_swap_216 (by decide) rfl ?_
              refine x_iload dX12_swap_217 4 rfl ?_
              refine x_istore_n (ls' := [(3, .int (nI f)), (2, .int (nI 0)), (8, .int (nI 0)), (7, .int (nI 0)), (6, .int (nI (f + 1 + j))), (5, .int (nI f)), (4, .int ((swI hl r f j B0).2.2)), (0, .ref y), (1, .int w)]) dX12_swap_219 (by decide) rfl ?_
              refine x_pc (pc' := 220) rfl ?_
              refine x_iload dX12_swap_220 4 rfl ?_
              refine x_istore (ls' := [(4, .int (nI (f + 1 + j))), (3, .int (nI f)), (2, .int (nI 0)), (8, .int (nI 0)), (7, .int (nI 0)), (6, .int (nI (f + 1 + j))), (5, .int (nI f)), (0, .ref y), (1, .int w)]) dX12_swap_222 (by decide) rfl ?_
              refine x_iinc (v := nI (f + 1 + j + 1)) (ls' := [(6, .int (nI (f + 1 + j + 1))), (4, .int (nI (f + 1 + j))), (3, .int (nI f)), (2, .int (nI 0)), (8, .int (nI 0)), (7, .int (nI 0)), (5, .int (nI f)), (0, .ref y), (1, .int w)]) dX12_swap_224 5 rfl (nIs _) (by decide) rfl ?_
              refine x_goto (tgt := 50) dX12_swap_227 (by decide) ?_
              refine x_perm (ls' := [(6, .int (nI (f + 1 + j + 1))), (5, .int (nI f)), (4, .int (nI (f + 1 + j))), (3, .int (nI f)), (2, .int (nI 0)), (0, .ref y), (1, .int w)]) [0, 6, 1, 2, 3, 7, 8] rfl ?_
              have hls := less_0 (hl := hl) (f := f) (s := (f + 1 + j)) (Or.inl c69)
              have hB2 := (swI_s hl r f j B0).trans (swS_y hls c211)
              have hih := ih (j + 1) (by omega)
              rw [hB2] at hih
              exact hih
          · exact absurd c156 (by decide)
        · exact absurd c92 (by decide)
      · obtain ⟨ta, ha1, ha2, -⟩ := (hrow.2.1 f hf).resolve_left c69
        have o5a := o5 ta ha1
        refine x_aload_n dX12_swap_72 5 rfl ?_
        refine x_get (v := .ref (y + 5)) dX12_swap_73 fX12_22 (hM.1) rfl ?_
        refine x_iload dX12_swap_76 0 rfl ?_
        refine x_ialdN (n := 4) (f := blk r 5 4) dX12_swap_78 (hM.c5) (by omega) (by decide) ?_
        refine x_topi (y := r (5 + (f + 1 + j))) (blk_at (by omega)) ?_
        refine x_iconst dX12_swap_79 ki_m1 ?_
        refine x_icmp_eq (x := r (5 + (f + 1 + j))) (y := (-1)) (tgt := 87) dX12_swap_80 (by decide) (fun c80 => ?_) (fun c80 => ?_)
        · refine x_iconst dX12_swap_87 ki_0 ?_
          refine x_pc (pc' := 88) rfl ?_
          refine x_istore (ls' := [(7, .int (nI 0)), (6, .int (nI (f + 1 + j))), (5, .int (nI f)), (4, .int ((swI hl r f j B0).2.2)), (3, .int ((swI hl r f j B0).2.1)), (2, .int ((swI hl r f j B0).1)), (0, .ref y), (1, .int w)]) dX12_swap_88 (by decide) rfl ?_
          refine x_iload dX12_swap_90 0 rfl ?_
          refine x_ifN_eq (tgt := 151) dX12_swap_92 (by decide) (by omega) (fun c92 => ?_) (fun c92 => ?_)
          · refine x_iconst dX12_swap_151 ki_0 ?_
            refine x_istore (ls' := [(7, .int (nI 0)), (6, .int (nI (f + 1 + j))), (5, .int (nI f)), (4, .int ((swI hl r f j B0).2.2)), (3, .int ((swI hl r f j B0).2.1)), (2, .int ((swI hl r f j B0).1)), (0, .ref y), (1, .int w)]) dX12_swap_152 (by decide) rfl ?_
            refine x_iload dX12_swap_154 0 rfl ?_
            refine x_ifN_eq (tgt := 205) dX12_swap_156 (by decide) (by omega) (fun c156 => ?_) (fun c156 => ?_)
            · refine x_iconst dX12_swap_205 ki_0 ?_
              refine x_istore (ls' := [(8, .int (nI 0)), (7, .int (nI 0)), (6, .int (nI (f + 1 + j))), (5, .int (nI f)), (4, .int ((swI hl r f j B0).2.2)), (3, .int ((swI hl r f j B0).2.1)), (2, .int ((swI hl r f j B0).1)), (0, .ref y), (1, .int w)]) dX12_swap_206 (by decide) rfl ?_
              refine x_iload dX12_swap_208 0 rfl ?_
              refine x_pc (pc' := 210) rfl ?_
              refine x_iload_n dX12_swap_210 6 rfl ?_
              refine x_icmp_le (x := nI 0) (y := (swI hl r f j B0).1) (tgt := 224) dX12_swap_211 (by decide) (fun c211 => ?_) (fun c211 => ?_)
              · refine x_iinc (v := nI (f + 1 + j + 1)) (ls' := [(6, .int (nI (f + 1 + j + 1))), (8, .int (nI 0)), (7, .int (nI 0)), (5, .int (nI f)), (4, .int ((swI hl r f j B0).2.2)), (3, .int ((swI hl r f j B0).2.1)), (2, .int ((swI hl r f j B0).1)), (0, .ref y), (1, .int w)]) dX12_swap_224 2 rfl (nIs _) (by decide) rfl ?_
                refine x_goto (tgt := 50) dX12_swap_227 (by decide) ?_
                refine x_perm (ls' := [(6, .int (nI (f + 1 + j + 1))), (5, .int (nI f)), (4, .int ((swI hl r f j B0).2.2)), (3, .int ((swI hl r f j B0).2.1)), (2, .int ((swI hl r f j B0).1)), (0, .ref y), (1, .int w)]) [0, 3, 4, 5, 6, 7, 8] rfl ?_
                have hls := less_0 (hl := hl) (f := f) (s := (f + 1 + j)) (Or.inr c80)
                have hB2 : swI hl r f (j + 1) B0 = swI hl r f j B0 := by rw [swI_s]; exact swS_n hls c211
                have hih := ih (j + 1) (by omega)
                rw [hB2] at hih
                exact hih
              · refine x_iload dX12_swap_214 0 rfl ?_
                refine x_istore_n (ls' := [(2, .int (nI 0)), (8, .int (nI 0)), (7, .int (nI 0)), (6, .int (nI (f + 1 + j))), (5, .int (nI f)), (4, .int ((swI hl r f j B0).2.2)), (3, .int ((swI hl r f j B0).2.1)), (0, .ref y), (1, .int w)]) dX12_swap_216 (by decide) rfl ?_
                refine x_iload dX12_swap_217 4 rfl ?_
                refine x_istore_n (ls' := [(3, .int (nI f)), (2, .int (nI 0)), (8, .int (nI 0)), (7, .int (nI 0)), (6, .int (nI (f + 1 + j))), (5, .int (nI f)), (4, .int ((swI hl r f j B0).2.2)), (0, .ref y), (1, .int w)]) dX12_swap_219 (by decide) rfl ?_
                refine x_iload dX12_swap_220 4 rfl ?_
                refine x_istore (ls' := [(4, .int (nI (f + 1 + j))), (3, .int (nI f)), (2, .int (nI 0)), (8, .int (nI 0)), (7, .int (nI 0)), (6, .int (nI (f + 1 + j))), (5, .int (nI f)), (0, .ref y), (1, .int w)]) dX12_swap_222 (by decide) rfl ?_
                refine x_iinc (v := nI (f + 1 + j + 1)) (ls' := [(6, .int (nI (f + 1 + j + 1))), (4, .int (nI (f + 1 + j))), (3, .int (nI f)), (2, .int (nI 0)), (8, .int (nI 0)), (7, .int (nI 0)), (5, .int (nI f)), (0, .ref y), (1, .int w)]) dX12_swap_224 5 rfl (nIs _) (by decide) rfl ?_
                refine x_goto (tgt := 50) dX12_swap_227 (by decide) ?_
                refine x_perm (ls' := [(6, .int (nI (f + 1 + j + 1))), (5, .int (nI f)), (4, .int (nI (f + 1 + j))), (3, .int (nI f)), (2, .int (nI 0)), (0, .ref y), (1, .int w)]) [0, 6, 1, 2, 3, 7, 8] rfl ?_
                have hls := less_0 (hl := hl) (f := f) (s := (f + 1 + j)) (Or.inr c80)
                have hB2 := (swI_s hl r f j B0).trans (swS_y hls c211)
                have hih := ih (j + 1) (by omega)
                rw [hB2] at hih
                exact hih
            · exact absurd c156 (by decide)
          · exact absurd c92 (by decide)
        · obtain ⟨tb, hb1, hb2, -⟩ := (hrow.2.1 (f + 1 + j) hs3).resolve_left c80
          have o5b := o5 tb hb1
          refine x_iconst dX12_swap_83 ki_1 ?_
          refine x_pc (pc' := 84) rfl ?_
          refine x_goto (tgt := 88) dX12_swap_84 (by decide) ?_
          refine x_istore (ls' := [(7, .int (nI 1)), (6, .int (nI (f + 1 + j))), (5, .int (nI f)), (4, .int ((swI hl r f j B0).2.2)), (3, .int ((swI hl r f j B0).2.1)), (2, .int ((swI hl r f j B0).1)), (0, .ref y), (1, .int w)]) dX12_swap_88 (by decide) rfl ?_
          refine x_iload dX12_swap_90 0 rfl ?_
          refine x_ifN_eq (tgt := 151) dX12_swap_92 (by decide) (by omega) (fun c92 => ?_) (fun c92 => ?_)
          · exact absurd c92 (by decide)
          · refine x_aload_n dX12_swap_95 6 rfl ?_
            refine x_get (v := .ref (y + 4)) dX12_swap_96 fX12_19 (hM.1) rfl ?_
            refine x_iconst dX12_swap_99 ki_4 ?_
            refine x_iload dX12_swap_100 2 rfl ?_
            refine x_imulN dX12_swap_102 ?_
            refine x_aload_n dX12_swap_103 6 rfl ?_
            refine x_pc (pc' := 104) rfl ?_
            refine x_get (v := .ref (y + 9)) dX12_swap_104 fX12_34 (hM.1) rfl ?_
            refine x_aload_n dX12_swap_107 6 rfl ?_
            refine x_get (v := .ref (y + 5)) dX12_swap_108 fX12_22 (hM.1) rfl ?_
            refine x_iload dX12_swap_111 1 rfl ?_
            refine x_ialdN (n := 4) (f := blk r 5 4) dX12_swap_113 (hM.c5) (by omega) (by decide) ?_
            refine x_topi (y := r (5 + (f + 1 + j))) (blk_at (by omega)) ?_
            refine x_topi (y := nI tb) hb2 ?_
            refine x_ialdN (n := 7) (f := nF (hl 4)) dX12_swap_114 (hM.c9) (by omega) (by decide) ?_
            refine x_iaddN dX12_swap_115 ?_
            refine x_ialdN (n := 16) (f := fun j => skJ (hl 3 j)) dX12_swap_116 (hM.c4) (by omega) (by decide) ?_
            refine x_iconst dX12_swap_117 ki_m1 ?_
            refine x_icmp_eq (x := skJ (hl 3 ((4 * f) + (hl 4 tb)))) (y := (-1)) (tgt := 151) dX12_swap_118 (by decide) (fun c118 => ?_) (fun c118 => ?_)
            · refine x_pc (pc' := 151) rfl ?_
              refine x_iconst dX12_swap_151 ki_0 ?_
              refine x_istore (ls' := [(7, .int (nI 0)), (6, .int (nI (f + 1 + j))), (5, .int (nI f)), (4, .int ((swI hl r f j B0).2.2)), (3, .int ((swI hl r f j B0).2.1)), (2, .int ((swI hl r f j B0).1)), (0, .ref y), (1, .int w)]) dX12_swap_152 (by decide) rfl ?_
              refine x_iload dX12_swap_154 0 rfl ?_
              refine x_ifN_eq (tgt := 205) dX12_swap_156 (by decide) (by omega) (fun c156 => ?_) (fun c156 => ?_)
              · refine x_iconst dX12_swap_205 ki_0 ?_
                refine x_istore (ls' := [(8, .int (nI 0)), (7, .int (nI 0)), (6, .int (nI (f + 1 + j))), (5, .int (nI f)), (4, .int ((swI hl r f j B0).2.2)), (3, .int ((swI hl r f j B0).2.1)), (2, .int ((swI hl r f j B0).1)), (0, .ref y), (1, .int w)]) dX12_swap_206 (by decide) rfl ?_
                refine x_iload dX12_swap_208 0 rfl ?_
                refine x_iload_n dX12_swap_210 6 rfl ?_
                refine x_icmp_le (x := nI 0) (y := (swI hl r f j B0).1) (tgt := 224) dX12_swap_211 (by decide) (fun c211 => ?_) (fun c211 => ?_)
                · refine x_iinc (v := nI (f + 1 + j + 1)) (ls' := [(6, .int (nI (f + 1 + j + 1))), (8, .int (nI 0)), (7, .int (nI 0)), (5, .int (nI f)), (4, .int ((swI hl r f j B0).2.2)), (3, .int ((swI hl r f j B0).2.1)), (2, .int ((swI hl r f j B0).1)), (0, .ref y), (1, .int w)]) dX12_swap_224 2 rfl (nIs _) (by decide) rfl ?_
                  refine x_pc (pc' := 227) rfl ?_
                  refine x_goto (tgt := 50) dX12_swap_227 (by decide) ?_
                  refine x_perm (ls' := [(6, .int (nI (f + 1 + j + 1))), (5, .int (nI f)), (4, .int ((swI hl r f j B0).2.2)), (3, .int ((swI hl r f j B0).2.1)), (2, .int ((swI hl r f j B0).1)), (0, .ref y), (1, .int w)]) [0, 3, 4, 5, 6, 7, 8] rfl ?_
                  have hls := less_1 c69 c80 ha2 hb2 (by omega) (by omega) (Or.inl c118) h31
                  have hB2 : swI hl r f (j + 1) B0 = swI hl r f j B0 := by rw [swI_s]; exact swS_n hls c211
                  have hih := ih (j + 1) (by omega)
                  rw [hB2] at hih
                  exact hih
                · refine x_iload dX12_swap_214 0 rfl ?_
                  refine x_pc (pc' := 216) rfl ?_
                  refine x_istore_n (ls' := [(2, .int (nI 0)), (8, .int (nI 0)), (7, .int (nI 0)), (6, .int (nI (f + 1 + j))), (5, .int (nI f)), (4, .int ((swI hl r f j B0).2.2)), (3, .int ((swI hl r f j B0).2.1)), (0, .ref y), (1, .int w)]) dX12_swap_216 (by decide) rfl ?_
                  refine x_iload dX12_swap_217 4 rfl ?_
                  refine x_istore_n (ls' := [(3, .int (nI f)), (2, .int (nI 0)), (8, .int (nI 0)), (7, .int (nI 0)), (6, .int (nI (f + 1 + j))), (5, .int (nI f)), (4, .int ((swI hl r f j B0).2.2)), (0, .ref y), (1, .int w)]) dX12_swap_219 (by decide) rfl ?_
                  refine x_iload dX12_swap_220 4 rfl ?_
                  refine x_istore (ls' := [(4, .int (nI (f + 1 + j))), (3, .int (nI f)), (2, .int (nI 0)), (8, .int (nI 0)), (7, .int (nI 0)), (6, .int (nI (f + 1 + j))), (5, .int (nI f)), (0, .ref y), (1, .int w)]) dX12_swap_222 (by decide) rfl ?_
                  refine x_iinc (v := nI (f + 1 + j + 1)) (ls' := [(6, .int (nI (f + 1 + j + 1))), (4, .int (nI (f + 1 + j))), (3, .int (nI f)), (2, .int (nI 0)), (8, .int (nI 0)), (7, .int (nI 0)), (5, .int (nI f)), (0, .ref y), (1, .int w)]) dX12_swap_224 5 rfl (nIs _) (by decide) rfl ?_
                  refine x_goto (tgt := 50) dX12_swap_227 (by decide) ?_
                  refine x_perm (ls' := [(6, .int (nI (f + 1 + j + 1))), (5, .int (nI f)), (4, .int (nI (f + 1 + j))), (3, .int (nI f)), (2, .int (nI 0)), (0, .ref y), (1, .int w)]) [0, 6, 1, 2, 3, 7, 8] rfl ?_
                  have hls := less_1 c69 c80 ha2 hb2 (by omega) (by omega) (Or.inl c118) h31
                  have hB2 := (swI_s hl r f j B0).trans (swS_y hls c211)
                  have hih := ih (j + 1) (by omega)
                  rw [hB2] at hih
                  exact hih
              · exact absurd c156 (by decide)
            · refine x_pc (pc' := 121) rfl ?_
              refine x_aload_n dX12_swap_121 6 rfl ?_
              refine x_get (v := .ref (y + 4)) dX12_swap_122 fX12_19 (hM.1) rfl ?_
              refine x_iconst dX12_swap_125 ki_4 ?_
              refine x_iload dX12_swap_126 1 rfl ?_
              refine x_imulN dX12_swap_128 ?_
              refine x_aload_n dX12_swap_129 6 rfl ?_
              refine x_get (v := .ref (y + 9)) dX12_swap_130 fX12_34 (hM.1) rfl ?_
              refine x_aload_n dX12_swap_133 6 rfl ?_
              refine x_get (v := .ref (y + 5)) dX12_swap_134 fX12_22 (hM.1) rfl ?_
              refine x_iload dX12_swap_137 2 rfl ?_
              refine x_pc (pc' := 139) rfl ?_
              refine x_ialdN (n := 4) (f := blk r 5 4) dX12_swap_139 (hM.c5) (by omega) (by decide) ?_
              refine x_topi (y := r (5 + f)) (blk_at (by omega)) ?_
              refine x_topi (y := nI ta) ha2 ?_
              refine x_ialdN (n := 7) (f := nF (hl 4)) dX12_swap_140 (hM.c9) (by omega) (by decide) ?_
              refine x_iaddN dX12_swap_141 ?_
              refine x_ialdN (n := 16) (f := fun j => skJ (hl 3 j)) dX12_swap_142 (hM.c4) (by omega) (by decide) ?_
              refine x_iconst dX12_swap_143 ki_m1 ?_
              refine x_icmp_eq (x := skJ (hl 3 ((4 * (f + 1 + j)) + (hl 4 ta)))) (y := (-1)) (tgt := 151) dX12_swap_144 (by decide) (fun c144 => ?_) (fun c144 => ?_)
              · refine x_iconst dX12_swap_151 ki_0 ?_
                refine x_istore (ls' := [(7, .int (nI 0)), (6, .int (nI (f + 1 + j))), (5, .int (nI f)), (4, .int ((swI hl r f j B0).2.2)), (3, .int ((swI hl r f j B0).2.1)), (2, .int ((swI hl r f j B0).1)), (0, .ref y), (1, .int w)]) dX12_swap_152 (by decide) rfl ?_
                refine x_iload dX12_swap_154 0 rfl ?_
                refine x_ifN_eq (tgt := 205) dX12_swap_156 (by decide) (by omega) (fun c156 => ?_) (fun c156 => ?_)
                · refine x_pc (pc' := 205) rfl ?_
                  refine x_iconst dX12_swap_205 ki_0 ?_
                  refine x_istore (ls' := [(8, .int (nI 0)), (7, .int (nI 0)), (6, .int (nI (f + 1 + j))), (5, .int (nI f)), (4, .int ((swI hl r f j B0).2.2)), (3, .int ((swI hl r f j B0).2.1)), (2, .int ((swI hl r f j B0).1)), (0, .ref y), (1, .int w)]) dX12_swap_206 (by decide) rfl ?_
                  refine x_iload dX12_swap_208 0 rfl ?_
                  refine x_iload_n dX12_swap_210 6 rfl ?_
                  refine x_icmp_le (x := nI 0) (y := (swI hl r f j B0).1) (tgt := 224) dX12_swap_211 (by decide) (fun c211 => ?_) (fun c211 => ?_)
                  · refine x_iinc (v := nI (f + 1 + j + 1)) (ls' := [(6, .int (nI (f + 1 + j + 1))), (8, .int (nI 0)), (7, .int (nI 0)), (5, .int (nI f)), (4, .int ((swI hl r f j B0).2.2)), (3, .int ((swI hl r f j B0).2.1)), (2, .int ((swI hl r f j B0).1)), (0, .ref y), (1, .int w)]) dX12_swap_224 2 rfl (nIs _) (by decide) rfl ?_
                    refine x_goto (tgt := 50) dX12_swap_227 (by decide) ?_
                    refine x_perm (ls' := [(6, .int (nI (f + 1 + j + 1))), (5, .int (nI f)), (4, .int ((swI hl r f j B0).2.2)), (3, .int ((swI hl r f j B0).2.1)), (2, .int ((swI hl r f j B0).1)), (0, .ref y), (1, .int w)]) [0, 3, 4, 5, 6, 7, 8] rfl ?_
                    have hls := less_1 c69 c80 ha2 hb2 (by omega) (by omega) (Or.inr c144) h31
                    have hB2 : swI hl r f (j + 1) B0 = swI hl r f j B0 := by rw [swI_s]; exact swS_n hls c211
                    have hih := ih (j + 1) (by omega)
                    rw [hB2] at hih
                    exact hih
                  · refine x_iload dX12_swap_214 0 rfl ?_
                    refine x_istore_n (ls' := [(2, .int (nI 0)), (8, .int (nI 0)), (7, .int (nI 0)), (6, .int (nI (f + 1 + j))), (5, .int (nI f)), (4, .int ((swI hl r f j B0).2.2)), (3, .int ((swI hl r f j B0).2.1)), (0, .ref y), (1, .int w)]) dX12_swap_216 (by decide) rfl ?_
                    refine x_iload dX12_swap_217 4 rfl ?_
                    refine x_istore_n (ls' := [(3, .int (nI f)), (2, .int (nI 0)), (8, .int (nI 0)), (7, .int (nI 0)), (6, .int (nI (f + 1 + j))), (5, .int (nI f)), (4, .int ((swI hl r f j B0).2.2)), (0, .ref y), (1, .int w)]) dX12_swap_219 (by decide) rfl ?_
                    refine x_iload dX12_swap_220 4 rfl ?_
                    refine x_pc (pc' := 222) rfl ?_
                    refine x_istore (ls' := [(4, .int (nI (f + 1 + j))), (3, .int (nI f)), (2, .int (nI 0)), (8, .int (nI 0)), (7, .int (nI 0)), (6, .int (nI (f + 1 + j))), (5, .int (nI f)), (0, .ref y), (1, .int w)]) dX12_swap_222 (by decide) rfl ?_
                    refine x_iinc (v := nI (f + 1 + j + 1)) (ls' := [(6, .int (nI (f + 1 + j + 1))), (4, .int (nI (f + 1 + j))), (3, .int (nI f)), (2, .int (nI 0)), (8, .int (nI 0)), (7, .int (nI 0)), (5, .int (nI f)), (0, .ref y), (1, .int w)]) dX12_swap_224 5 rfl (nIs _) (by decide) rfl ?_
                    refine x_goto (tgt := 50) dX12_swap_227 (by decide) ?_
                    refine x_perm (ls' := [(6, .int (nI (f + 1 + j + 1))), (5, .int (nI f)), (4, .int (nI (f + 1 + j))), (3, .int (nI f)), (2, .int (nI 0)), (0, .ref y), (1, .int w)]) [0, 6, 1, 2, 3, 7, 8] rfl ?_
                    have hls := less_1 c69 c80 ha2 hb2 (by omega) (by omega) (Or.inr c144) h31
                    have hB2 := (swI_s hl r f j B0).trans (swS_y hls c211)
                    have hih := ih (j + 1) (by omega)
                    rw [hB2] at hih
                    exact hih
                · exact absurd c156 (by decide)
              · refine x_iconst dX12_swap_147 ki_1 ?_
                refine x_goto (tgt := 152) dX12_swap_148 (by decide) ?_
                refine x_istore (ls' := [(7, .int (nI 1)), (6, .int (nI (f + 1 + j))), (5, .int (nI f)), (4, .int ((swI hl r f j B0).2.2)), (3, .int ((swI hl r f j B0).2.1)), (2, .int ((swI hl r f j B0).1)), (0, .ref y), (1, .int w)]) dX12_swap_152 (by decide) rfl ?_
                refine x_iload dX12_swap_154 0 rfl ?_
                refine x_pc (pc' := 156) rfl ?_
                refine x_ifN_eq (tgt := 205) dX12_swap_156 (by decide) (by omega) (fun c156 => ?_) (fun c156 => ?_)
                · exact absurd c156 (by decide)
                · refine x_aload_n dX12_swap_159 6 rfl ?_
                  refine x_get (v := .ref (y + 6)) dX12_swap_160 fX12_25 (hM.1) rfl ?_
                  refine x_iload dX12_swap_163 2 rfl ?_
                  refine x_ialdN (n := 4) (f := blk r 9 4) dX12_swap_165 (hM.c6) (by omega) (by decide) ?_
                  refine x_topi (y := r (9 + f)) (blk_at (by omega)) ?_
                  refine x_aload_n dX12_swap_166 6 rfl ?_
                  refine x_get (v := .ref (y + 6)) dX12_swap_167 fX12_25 (hM.1) rfl ?_
                  refine x_iload dX12_swap_170 1 rfl ?_
                  refine x_ialdN (n := 4) (f := blk r 9 4) dX12_swap_172 (hM.c6) (by omega) (by decide) ?_
                  refine x_topi (y := r (9 + (f + 1 + j))) (blk_at (by omega)) ?_
                  refine x_iadd dX12_swap_173 ?_
                  refine x_pc (pc' := 174) rfl ?_
                  refine x_aload_n dX12_swap_174 6 rfl ?_
                  refine x_iload dX12_swap_175 2 rfl ?_
                  refine x_aload_n dX12_swap_177 6 rfl ?_
                  refine x_get (v := .ref (y + 5)) dX12_swap_178 fX12_22 (hM.1) rfl ?_
                  refine x_iload dX12_swap_181 1 rfl ?_
                  refine x_ialdN (n := 4) (f := blk r 5 4) dX12_swap_183 (hM.c5) (by omega) (by decide) ?_
                  refine x_topi (y := r (5 + (f + 1 + j))) (blk_at (by omega)) ?_
                  refine x_topi (y := nI tb) hb2 ?_
                  have kb1 : 0 < hl 3 (f * 4 + hl 4 tb) := by rw [Nat.mul_comm]; exact (skJ_ne (h31 _)).mp c118
                  refine x_cV (N := mX12_lasts) (d' := 0) (mc := 0) (ms := 0) (cb := 0) (sb := 0) (As := [.int (nI f), .int (nI tb)]) (st := [.int ((r (9 + f)) + (r (9 + (f + 1 + j))))]) dX12_swap_184 mX12_lasts_v lX12_370 rfl rfl (hM.1) rfl (by decide) (Nat.le_of_ble_eq_true rfl) (Md_lasts hM (by omega) (by omega) (by omega) kb1 (by have := hO.2.2.2.2.1 (f * 4 + hl 4 tb) (by omega); omega)) rfl (st1 := [.int (nI (effS hl f tb)), .int ((r (9 + f)) + (r (9 + (f + 1 + j))))]) rfl ?_
                  refine x_isub dX12_swap_187 ?_
                  refine x_aload_n dX12_swap_188 6 rfl ?_
                  refine x_iload dX12_swap_189 1 rfl ?_
                  refine x_pc (pc' := 191) rfl ?_
                  refine x_aload_n dX12_swap_191 6 rfl ?_
                  refine x_get (v := .ref (y + 5)) dX12_swap_192 fX12_22 (hM.1) rfl ?_
                  refine x_iload dX12_swap_195 2 rfl ?_
                  refine x_ialdN (n := 4) (f := blk r 5 4) dX12_swap_197 (hM.c5) (by omega) (by decide) ?_
                  refine x_topi (y := r (5 + f)) (blk_at (by omega)) ?_
                  refine x_topi (y := nI ta) ha2 ?_
                  have kb2 : 0 < hl 3 ((f + 1 + j) * 4 + hl 4 ta) := by rw [Nat.mul_comm]; exact (skJ_ne (h31 _)).mp c144
                  refine x_cV (N := mX12_lasts) (d' := 0) (mc := 0) (ms := 0) (cb := 0) (sb := 0) (As := [.int (nI (f + 1 + j)), .int (nI ta)]) (st := [.int (((r (9 + f)) + (r (9 + (f + 1 + j)))) - (nI (effS hl f tb)))]) dX12_swap_198 mX12_lasts_v lX12_370 rfl rfl (hM.1) rfl (by decide) (Nat.le_of_ble_eq_true rfl) (Md_lasts hM (by omega) (by omega) (by omega) kb2 (by have := hO.2.2.2.2.1 ((f + 1 + j) * 4 + hl 4 ta) (by omega); omega)) rfl (st1 := [.int (nI (effS hl (f + 1 + j) ta)), .int (((r (9 + f)) + (r (9 + (f + 1 + j)))) - (nI (effS hl f tb)))]) rfl ?_
                  refine x_isub dX12_swap_201 ?_
                  refine x_goto (tgt := 206) dX12_swap_202 (by decide) ?_
                  refine x_istore (ls' := [(8, .int ((((r (9 + f)) + (r (9 + (f + 1 + j)))) - (nI (effS hl f tb))) - (nI (effS hl (f + 1 + j) ta)))), (7, .int (nI 1)), (6, .int (nI (f + 1 + j))), (5, .int (nI f)), (4, .int ((swI hl r f j B0).2.2)), (3, .int ((swI hl r f j B0).2.1)), (2, .int ((swI hl r f j B0).1)), (0, .ref y), (1, .int w)]) dX12_swap_206 (by decide) rfl ?_
                  refine x_iload dX12_swap_208 0 rfl ?_
                  refine x_iload_n dX12_swap_210 6 rfl ?_
                  refine x_pc (pc' := 211) rfl ?_
                  refine x_icmp_le (x := (((r (9 + f)) + (r (9 + (f + 1 + j)))) - (nI (effS hl f tb))) - (nI (effS hl (f + 1 + j) ta))) (y := (swI hl r f j B0).1) (tgt := 224) dX12_swap_211 (by decide) (fun c211 => ?_) (fun c211 => ?_)
                  · refine x_iinc (v := nI (f + 1 + j + 1)) (ls' := [(6, .int (nI (f + 1 + j + 1))), (8, .int ((((r (9 + f)) + (r (9 + (f + 1 + j)))) - (nI (effS hl f tb))) - (nI (effS hl (f + 1 + j) ta)))), (7, .int (nI 1)), (5, .int (nI f)), (4, .int ((swI hl r f j B0).2.2)), (3, .int ((swI hl r f j B0).2.1)), (2, .int ((swI hl r f j B0).1)), (0, .ref y), (1, .int w)]) dX12_swap_224 2 rfl (nIs _) (by decide) rfl ?_
                    refine x_goto (tgt := 50) dX12_swap_227 (by decide) ?_
                    refine x_perm (ls' := [(6, .int (nI (f + 1 + j + 1))), (5, .int (nI f)), (4, .int ((swI hl r f j B0).2.2)), (3, .int ((swI hl r f j B0).2.1)), (2, .int ((swI hl r f j B0).1)), (0, .ref y), (1, .int w)]) [0, 3, 4, 5, 6, 7, 8] rfl ?_
                    have hls := less_2 c69 c80 ha2 hb2 (by omega) (by omega) c118 c144 h31
                    have hB2 : swI hl r f (j + 1) B0 = swI hl r f j B0 := by rw [swI_s]; exact swS_n hls c211
                    have hih := ih (j + 1) (by omega)
                    rw [hB2] at hih
                    exact hih
                  · refine x_iload dX12_swap_214 0 rfl ?_
                    refine x_istore_n (ls' := [(2, .int ((((r (9 + f)) + (r (9 + (f + 1 + j)))) - (nI (effS hl f tb))) - (nI (effS hl (f + 1 + j) ta)))), (8, .int ((((r (9 + f)) + (r (9 + (f + 1 + j)))) - (nI (effS hl f tb))) - (nI (effS hl (f + 1 + j) ta)))), (7, .int (nI 1)), (6, .int (nI (f + 1 + j))), (5, .int (nI f)), (4, .int ((swI hl r f j B0).2.2)), (3, .int ((swI hl r f j B0).2.1)), (0, .ref y), (1, .int w)]) dX12_swap_216 (by decide) rfl ?_
                    refine x_iload dX12_swap_217 4 rfl ?_
                    refine x_istore_n (ls' := [(3, .int (nI f)), (2, .int ((((r (9 + f)) + (r (9 + (f + 1 + j)))) - (nI (effS hl f tb))) - (nI (effS hl (f + 1 + j) ta)))), (8, .int ((((r (9 + f)) + (r (9 + (f + 1 + j)))) - (nI (effS hl f tb))) - (nI (effS hl (f + 1 + j) ta)))), (7, .int (nI 1)), (6, .int (nI (f + 1 + j))), (5, .int (nI f)), (4, .int ((swI hl r f j B0).2.2)), (0, .ref y), (1, .int w)]) dX12_swap_219 (by decide) rfl ?_
                    refine x_iload dX12_swap_220 4 rfl ?_
                    refine x_istore (ls' := [(4, .int (nI (f + 1 + j))), (3, .int (nI f)), (2, .int ((((r (9 + f)) + (r (9 + (f + 1 + j)))) - (nI (effS hl f tb))) - (nI (effS hl (f + 1 + j) ta)))), (8, .int ((((r (9 + f)) + (r (9 + (f + 1 + j)))) - (nI (effS hl f tb))) - (nI (effS hl (f + 1 + j) ta)))), (7, .int (nI 1)), (6, .int (nI (f + 1 + j))), (5, .int (nI f)), (0, .ref y), (1, .int w)]) dX12_swap_222 (by decide) rfl ?_
                    refine x_iinc (v := nI (f + 1 + j + 1)) (ls' := [(6, .int (nI (f + 1 + j + 1))), (4, .int (nI (f + 1 + j))), (3, .int (nI f)), (2, .int ((((r (9 + f)) + (r (9 + (f + 1 + j)))) - (nI (effS hl f tb))) - (nI (effS hl (f + 1 + j) ta)))), (8, .int ((((r (9 + f)) + (r (9 + (f + 1 + j)))) - (nI (effS hl f tb))) - (nI (effS hl (f + 1 + j) ta)))), (7, .int (nI 1)), (5, .int (nI f)), (0, .ref y), (1, .int w)]) dX12_swap_224 5 rfl (nIs _) (by decide) rfl ?_
                    refine x_goto (tgt := 50) dX12_swap_227 (by decide) ?_
                    refine x_perm (ls' := [(6, .int (nI (f + 1 + j + 1))), (5, .int (nI f)), (4, .int (nI (f + 1 + j))), (3, .int (nI f)), (2, .int ((((r (9 + f)) + (r (9 + (f + 1 + j)))) - (nI (effS hl f tb))) - (nI (effS hl (f + 1 + j) ta)))), (0, .ref y), (1, .int w)]) [0, 6, 1, 2, 3, 7, 8] rfl ?_
                    have hls := less_2 c69 c80 ha2 hb2 (by omega) (by omega) c118 c144 h31
                    have hB2 := (swI_s hl r f j B0).trans (swS_y hls c211)
                    have hih := ih (j + 1) (by omega)
                    rw [hB2] at hih
                    exact hih
theorem Md_sw_out {K : xG} {h y : Nat} {G0 G : xHp} {hl : xHl} {r : xRw} {sc : Nat × Nat × Int32} {A : Nat → Nat → Int32} {F : Nat → Int32} {wa sa : Nat → Int64} {w : Int32} {Q : xPost} (hM : MW G0 G y hl r sc A F wa sa) (hO : HallOk hl) (hrow : RowOk hl r) (next : xV K mX12_swap 1 0 0 h G 236 [(4, .int ((swO hl r (hl 0 3)).2.2)), (3, .int ((swO hl r (hl 0 3)).2.1)), (2, .int ((swO hl r (hl 0 3)).1)), (0, .ref y), (1, .int w)] [] (Q)) : ∀ (k f : Nat), f + k = hl 0 3 → xV K mX12_swap 1 0 0 h G 33 [(5, .int (nI f)), (4, .int ((swO hl r f).2.2)), (3, .int ((swO hl r f).2.1)), (2, .int ((swO hl r f).1)), (0, .ref y), (1, .int w)] [] (Q) := by
  obtain ⟨o2, o3, o4, o5, o6, o7, o8, o9⟩ := id hO
  have hB := hM.hB
  intro k
  induction k with
  | zero =>
    intro f hv
    have hv0 : f = hl 0 3 := by omega
    subst hv0
    refine x_iload dX12_swap_33 0 rfl ?_
    refine x_aload_n dX12_swap_35 4 rfl ?_
    refine x_get (v := .ref (y + 1)) dX12_swap_36 fX12_9 (hM.1) rfl ?_
    refine x_iconst dX12_swap_39 ki_3 ?_
    refine x_ialdN (n := 9) (f := scal hl r sc) dX12_swap_40 (hM.c1) (by decide) (by decide) ?_
    refine x_topi (y := nI (hl 0 3)) rfl ?_
    refine x_icmpN_ge (tgt := 236) dX12_swap_41 (by decide) (by omega) (by omega) (fun c41 => ?_) (fun c41 => ?_)
    · refine x_perm (ls' := [(4, .int ((swO hl r (hl 0 3)).2.2)), (3, .int ((swO hl r (hl 0 3)).2.1)), (2, .int ((swO hl r (hl 0 3)).1)), (0, .ref y), (1, .int w)]) [1, 2, 3, 4, 5] rfl ?_
      exact next
    · exact absurd c41 (by omega)
  | succ k ih =>
    intro f hv
    refine x_iload dX12_swap_33 0 rfl ?_
    refine x_aload_n dX12_swap_35 4 rfl ?_
    refine x_get (v := .ref (y + 1)) dX12_swap_36 fX12_9 (hM.1) rfl ?_
    refine x_iconst dX12_swap_39 ki_3 ?_
    refine x_ialdN (n := 9) (f := scal hl r sc) dX12_swap_40 (hM.c1) (by decide) (by decide) ?_
    refine x_topi (y := nI (hl 0 3)) rfl ?_
    refine x_icmpN_ge (tgt := 236) dX12_swap_41 (by decide) (by omega) (by omega) (fun c41 => ?_) (fun c41 => ?_)
    · exact absurd c41 (by omega)
    · refine x_iload dX12_swap_44 0 rfl ?_
      refine x_iconst dX12_swap_46 ki_1 ?_
      refine x_iaddN dX12_swap_47 ?_
      refine x_pc (pc' := 48) rfl ?_
      refine x_istore (ls' := [(6, .int (nI (f + 1))), (5, .int (nI f)), (4, .int ((swO hl r f).2.2)), (3, .int ((swO hl r f).2.1)), (2, .int ((swO hl r f).1)), (0, .ref y), (1, .int w)]) dX12_swap_48 (by decide) rfl ?_
      refine Md_sw_in (B0 := swO hl r f) hM hO hrow (by omega) ?_ (hl 0 3 - (f + 1)) 0 (by omega)
      refine x_iinc (v := nI (f + 1)) (ls' := [(5, .int (nI (f + 1))), (4, .int ((swI hl r f (hl 0 3 - (f + 1)) (swO hl r f)).2.2)), (3, .int ((swI hl r f (hl 0 3 - (f + 1)) (swO hl r f)).2.1)), (2, .int ((swI hl r f (hl 0 3 - (f + 1)) (swO hl r f)).1)), (0, .ref y), (1, .int w)]) dX12_swap_230 0 rfl (nIs _) (by decide) rfl ?_
      refine x_goto (tgt := 33) dX12_swap_233 (by decide) ?_
      exact ih (f + 1) (by omega)
theorem Md_swap_y {K : xG} {h y : Nat} {G0 G : xHp} {hl : xHl} {r : xRw} {sc : Nat × Nat × Int32} {A : Nat → Nat → Int32} {F : Nat → Int32} {wa sa : Nat → Int64} {w : Int32} (hM : MW G0 G y hl r sc A F wa sa) (hO : HallOk hl) (hrow : RowOk hl r) (h1 : 0 < hl 0 0) (hw : inR w 3 = true) : xCall K mX12_swap 1 0 0 [.ref y, .int w] h G (xRet (some (.int (swAns hl r w))) h G) := by
  refine x_entry (by decide) (ls := [(0, .ref y), (1, .int w)]) rfl (Nat.le_of_ble_eq_true rfl) ?_
  have hB := hM.hB
  obtain ⟨o2, o3, o4, o5, o6, o7, o8, o9⟩ := id hO
  refine x_aload_n dX12_swap_0 0 rfl ?_
  refine x_cV (N := mX12_isHall) (d' := 0) (mc := 0) (ms := 0) (cb := 0) (sb := 0) (As := []) (st := []) dX12_swap_1 mX12_isHall_v lX12_425 rfl rfl (hM.1) rfl (by decide) (Nat.le_of_ble_eq_true rfl) (Md_isHall hM) rfl (st1 := [.int (bI (decide (0 < hl 0 0)))]) rfl ?_
  refine x_ifB_eq (tgt := 19) dX12_swap_4 (by decide) (fun c4 => ?_) (fun c4 => ?_)
  · exact absurd c4 (by rw [decide_eq_true h1]; decide)
  · refine x_iload_n dX12_swap_7 1 rfl ?_
    refine x_i2l dX12_swap_8 ?_
    refine x_lconst (v := 0) dX12_swap_9 rfl ?_
    refine x_ldc2 dX12_swap_10 cX12_482 ?_
    refine x_cS (N := mX12_in) (d' := 0) (mc := 0) (ms := 0) (cb := 0) (sb := 0) (As := [.long w.toInt64, .long 0, .long (2 : Int64)]) (st := []) dX12_swap_13 mX12_in_s lX12_155 rfl (by decide) (Nat.le_of_ble_eq_true rfl) (Md_in) rfl (st1 := [.int (bI (decide (0 ≤ w.toInt64 ∧ w.toInt64 ≤ (2 : Int64))))]) rfl ?_
    refine x_ifB_ne (tgt := 21) dX12_swap_16 (by decide) (fun c16 => ?_) (fun c16 => ?_)
    · refine x_pc (pc' := 21) rfl ?_
      refine x_iconst dX12_swap_21 ki_0 ?_
      refine x_istore_n (ls' := [(2, .int (nI 0)), (0, .ref y), (1, .int w)]) dX12_swap_22 (by decide) rfl ?_
      refine x_bipush dX12_swap_23 kb_m2 ?_
      refine x_istore_n (ls' := [(3, .int (-2)), (2, .int (nI 0)), (0, .ref y), (1, .int w)]) dX12_swap_25 (by decide) rfl ?_
      refine x_bipush dX12_swap_26 kb_m2 ?_
      refine x_istore (ls' := [(4, .int (-2)), (3, .int (-2)), (2, .int (nI 0)), (0, .ref y), (1, .int w)]) dX12_swap_28 (by decide) rfl ?_
      refine x_iconst dX12_swap_30 ki_0 ?_
      refine x_istore (ls' := [(5, .int (nI 0)), (4, .int (-2)), (3, .int (-2)), (2, .int (nI 0)), (0, .ref y), (1, .int w)]) dX12_swap_31 (by decide) rfl ?_
      refine Md_sw_out hM hO hrow ?_ (hl 0 3) 0 (by omega)
      refine x_iload_n dX12_swap_236 1 rfl ?_
      refine x_bipush dX12_swap_237 kb_m2 ?_
      refine x_icmp_ne (x := (swO hl r (hl 0 3)).2.1) (y := (-2)) (tgt := 247) dX12_swap_239 (by decide) (fun c239 => ?_) (fun c239 => ?_)
      · refine x_iload_n dX12_swap_247 4 rfl ?_
        refine x_if_ne (tgt := 255) dX12_swap_248 (by decide) (fun c248 => ?_) (fun c248 => ?_)
        · refine x_iload_n dX12_swap_255 4 rfl ?_
          refine x_iconst dX12_swap_256 ki_1 ?_
          refine x_icmp_ne (x := w) (y := nI 1) (tgt := 264) dX12_swap_257 (by decide) (fun c257 => ?_) (fun c257 => ?_)
          · refine x_iload dX12_swap_264 0 rfl ?_
            refine x_pc (pc' := 266) rfl ?_
            have hsp := sw_some o3 c239
            exact x_iret dX12_swap_266 rfl (xRet_e (by unfold swAns; rw [if_neg (show ¬ w = 0 from c248), if_neg (show ¬ w = nI 1 from c257)]) rfl)
          · refine x_iload_n dX12_swap_260 1 rfl ?_
            refine x_pc (pc' := 261) rfl ?_
            refine x_goto (tgt := 266) dX12_swap_261 (by decide) ?_
            have hsp := sw_some o3 c239
            exact x_iret dX12_swap_266 rfl (xRet_e (by unfold swAns; rw [if_neg (show ¬ w = 0 from c248), if_pos (show w = nI 1 from c257)]) rfl)
        · refine x_iload_n dX12_swap_251 2 rfl ?_
          refine x_goto (tgt := 266) dX12_swap_252 (by decide) ?_
          have hsp := sw_some o3 c239
          exact x_iret dX12_swap_266 rfl (xRet_e (by unfold swAns; rw [if_pos (show w = 0 from c248), if_pos hsp]) rfl)
      · refine x_bipush dX12_swap_242 kb_m2 ?_
        refine x_goto (tgt := 266) dX12_swap_244 (by decide) ?_
        exact x_iret dX12_swap_266 rfl (xRet_e (by rw [sw_none o3 c239]) rfl)
    · exact absurd c16 (by rw [in_2, hw]; decide)
theorem Md_draws {K : xG} {h y : Nat} {G0 G : xHp} {hl : xHl} {r : xRw} {sc : Nat × Nat × Int32} {A : Nat → Nat → Int32} {F : Nat → Int32} {wa sa : Nat → Int64} {g : Nat} (hM : MW G0 G y hl r sc A F wa sa) (hO : HallOk hl) (ha : sc.2.1 < 2 ^ 31) (hg : 0 < g) (hg2 : g < 1000) : xCall K mX12_draws 0 0 0 [.ref y, .int (nI g)] h G (mdQ G0 h y (some (.int (nI (drwN sc.2.1 / 65536 % g)))) hl r (sc.1, drwN sc.2.1, sc.2.2) A F wa sa) := by
  refine x_entry (by decide) (ls := [(0, .ref y), (1, .int (nI g))]) rfl (Nat.le_of_ble_eq_true rfl) ?_
  have hB := hM.hB
  obtain ⟨o2, o3, o4, o5, o6, o7, o8, o9⟩ := id hO
  have hdl := drwN_lt sc.2.1
  refine x_aload_n dX12_draws_0 0 rfl ?_
  refine x_get (v := .ref (y + 1)) dX12_draws_1 fX12_9 (hM.1) rfl ?_
  refine x_bipush dX12_draws_4 kb_7 ?_
  refine x_aload_n dX12_draws_6 0 rfl ?_
  refine x_get (v := .ref (y + 1)) dX12_draws_7 fX12_9 (hM.1) rfl ?_
  refine x_bipush dX12_draws_10 kb_7 ?_
  refine x_ialdN (n := 9) (f := scal hl r sc) dX12_draws_12 (hM.c1) (by decide) (by decide) ?_
  refine x_topi (y := nI sc.2.1) rfl ?_
  refine x_i2l dX12_draws_13 ?_
  refine x_ldc2 dX12_draws_14 cX12_494 ?_
  refine x_pc (pc' := 17) rfl ?_
  refine x_lmul dX12_draws_17 ?_
  refine x_ldc2 dX12_draws_18 cX12_496 ?_
  refine x_ladd dX12_draws_21 ?_
  refine x_ldc2 dX12_draws_22 cX12_498 ?_
  refine x_lrem dX12_draws_25 (by decide) ?_
  refine x_l2i dX12_draws_26 ?_
  refine x_topi (y := nI (drwN sc.2.1)) (drw_nI ha) ?_
  refine x_iastN (n := 9) (f := scal hl r sc) dX12_draws_27 (hM.c1) (by decide) (by decide) ?_
  refine x_acong (g := scal hl r (sc.1, drwN sc.2.1, sc.2.2)) scal_7 ?_
  refine x_gen (P := fun G' => MW G0 G' y hl r (sc.1, drwN sc.2.1, sc.2.2) A F wa sa) (hM.s1c (sc.1, drwN sc.2.1, sc.2.2)) (fun G1 hN1 => ?_)
  refine x_aload_n dX12_draws_28 0 rfl ?_
  refine x_get (v := .ref (y + 1)) dX12_draws_29 fX12_9 (hN1.1) rfl ?_
  refine x_bipush dX12_draws_32 kb_7 ?_
  refine x_pc (pc' := 34) rfl ?_
  refine x_ialdN (n := 9) (f := scal hl r (sc.1, drwN sc.2.1, sc.2.2)) dX12_draws_34 (hN1.c1) (by decide) (by decide) ?_
  refine x_topi (y := nI ((sc.1, drwN sc.2.1, sc.2.2).2.1)) rfl ?_
  refine x_topi (y := nI (drwN sc.2.1)) rfl ?_
  refine x_ldcw dX12_draws_35 cX12_500 ?_
  refine x_topi (y := nI 65536) (by decide) ?_
  refine x_idivN dX12_draws_38 (by omega) (by decide) (by decide) ?_
  refine x_iload_n dX12_draws_39 1 rfl ?_
  refine x_iremN dX12_draws_40 (by omega) (by omega) (by omega) ?_
  exact x_iret dX12_draws_41 rfl (xEx_i _ hN1 rfl rfl rfl)
theorem Md_sat_n {K : xG} {h y : Nat} {G0 G : xHp} {hl : xHl} {r : xRw} {sc : Nat × Nat × Int32} {A : Nat → Nat → Int32} {F : Nat → Int32} {wa sa : Nat → Int64} {a b w : Int32} (hM : MW G0 G y hl r sc A F wa sa) (hO : HallOk hl) (hn : ¬ (0 < hl 0 0 ∧ ¬ a < nI 1 ∧ ¬ nI 10 < a ∧ inR b 61 = true ∧ inR w 2 = true)) : xCall K mX12_saturdays 9 0 0 [.ref y, .int a, .int b, .int w] h G (xRet (some (.int (-1))) h G) := by
  refine x_entry (by decide) (ls := [(0, .ref y), (1, .int a), (2, .int b), (3, .int w)]) rfl (Nat.le_of_ble_eq_true rfl) ?_
  have hB := hM.hB
  obtain ⟨o2, o3, o4, o5, o6, o7, o8, o9⟩ := id hO
  refine x_aload_n dX12_saturdays_0 0 rfl ?_
  refine x_cV (N := mX12_isHall) (d' := 0) (mc := 0) (ms := 0) (cb := 0) (sb := 0) (As := []) (st := []) dX12_saturdays_1 mX12_isHall_v lX12_425 rfl rfl (hM.1) rfl (by decide) (Nat.le_of_ble_eq_true rfl) (Md_isHall hM) rfl (st1 := [.int (bI (decide (0 < hl 0 0)))]) rfl ?_
  refine x_ifB_eq (tgt := 41) dX12_saturdays_4 (by decide) (fun c4 => ?_) (fun c4 => ?_)
  · refine x_iconst dX12_saturdays_41 ki_m1 ?_
    exact x_iret dX12_saturdays_42 rfl (xRet_i)
  · refine x_iload_n dX12_saturdays_7 1 rfl ?_
    refine x_i2l dX12_saturdays_8 ?_
    refine x_lconst (v := 1) dX12_saturdays_9 rfl ?_
    refine x_ldc2 dX12_saturdays_10 cX12_501 ?_
    refine x_cS (N := mX12_in) (d' := 0) (mc := 0) (ms := 0) (cb := 0) (sb := 0) (As := [.long a.toInt64, .long 1, .long (10 : Int64)]) (st := []) dX12_saturdays_13 mX12_in_s lX12_155 rfl (by decide) (Nat.le_of_ble_eq_true rfl) (Md_in) rfl (st1 := [.int (bI (decide (1 ≤ a.toInt64 ∧ a.toInt64 ≤ (10 : Int64))))]) rfl ?_
    refine x_ifB_eq (tgt := 41) dX12_saturdays_16 (by decide) (fun c16 => ?_) (fun c16 => ?_)
    · refine x_pc (pc' := 41) rfl ?_
      refine x_iconst dX12_saturdays_41 ki_m1 ?_
      exact x_iret dX12_saturdays_42 rfl (xRet_i)
    · refine x_pc (pc' := 19) rfl ?_
      refine x_iload_n dX12_saturdays_19 2 rfl ?_
      refine x_i2l dX12_saturdays_20 ?_
      refine x_lconst (v := 0) dX12_saturdays_21 rfl ?_
      refine x_ldc2 dX12_saturdays_22 cX12_434 ?_
      refine x_cS (N := mX12_in) (d' := 0) (mc := 0) (ms := 0) (cb := 0) (sb := 0) (As := [.long b.toInt64, .long 0, .long (60 : Int64)]) (st := []) dX12_saturdays_25 mX12_in_s lX12_155 rfl (by decide) (Nat.le_of_ble_eq_true rfl) (Md_in) rfl (st1 := [.int (bI (decide (0 ≤ b.toInt64 ∧ b.toInt64 ≤ (60 : Int64))))]) rfl ?_
      refine x_ifB_eq (tgt := 41) dX12_saturdays_28 (by decide) (fun c28 => ?_) (fun c28 => ?_)
      · refine x_iconst dX12_saturdays_41 ki_m1 ?_
        exact x_iret dX12_saturdays_42 rfl (xRet_i)
      · refine x_iload_n dX12_saturdays_31 3 rfl ?_
        refine x_i2l dX12_saturdays_32 ?_
        refine x_lconst (v := 0) dX12_saturdays_33 rfl ?_
        refine x_lconst (v := 1) dX12_saturdays_34 rfl ?_
        refine x_pc (pc' := 35) rfl ?_
        refine x_cS (N := mX12_in) (d' := 0) (mc := 0) (ms := 0) (cb := 0) (sb := 0) (As := [.long w.toInt64, .long 0, .long 1]) (st := []) dX12_saturdays_35 mX12_in_s lX12_155 rfl (by decide) (Nat.le_of_ble_eq_true rfl) (Md_in) rfl (st1 := [.int (bI (decide (0 ≤ w.toInt64 ∧ w.toInt64 ≤ 1)))]) rfl ?_
        refine x_ifB_ne (tgt := 43) dX12_saturdays_38 (by decide) (fun c38 => ?_) (fun c38 => ?_)
        · exact absurd ⟨of_decide_eq_true c4, (of_decide_eq_true ((in_10 a).symm.trans c16)).1, (of_decide_eq_true ((in_10 a).symm.trans c16)).2, (in_p60 b).symm.trans c28, (in_01 w).symm.trans c38⟩ hn
        · refine x_iconst dX12_saturdays_41 ki_m1 ?_
          exact x_iret dX12_saturdays_42 rfl (xRet_i)
theorem Md_sat_in {K : xG} {h y : Nat} {G0 : xHp} {hl : xHl} {sc : Nat × Nat × Int32} {A : Nat → Nat → Int32} {F : Nat → Int32} {xx pp mm k : Nat} {g0 s0 w : Int32} {wa sa : Nat → Int64} {Q : xPost} (hO : HallOk hl) (hc5 : ∀ t, t < hl 0 4 → hl 5 t ≤ 300) (hx : xx < 2 ^ 31) (hpp : pp ≤ 60) (hb : ∀ i j, hl i j < 1000000) (next : ∀ G2, MW G0 G2 y (satF xx (pp + 1) hl (hl 0 4)).2 (clearR hl) (sc.1, (satF xx (pp + 1) hl (hl 0 4)).1, sc.2.2) A F wa sa → xV K mX12_saturdays 9 0 0 h G2 125 [(9, .int (nI (hl 0 4))), (8, .int (nI k)), (7, .int g0), (6, .int s0), (5, .int (nI xx)), (4, .int (nI sc.2.1)), (0, .ref y), (1, .int (nI mm)), (2, .int (nI pp)), (3, .int w)] [] (Q)) : ∀ (i t : Nat) (G1 : xHp), t + i = hl 0 4 → MW G0 G1 y (satF xx (pp + 1) hl t).2 (clearR hl) (sc.1, (satF xx (pp + 1) hl t).1, sc.2.2) A F wa sa → xV K mX12_saturdays 9 0 0 h G1 91 [(9, .int (nI t)), (8, .int (nI k)), (7, .int g0), (6, .int s0), (5, .int (nI xx)), (4, .int (nI sc.2.1)), (0, .ref y), (1, .int (nI mm)), (2, .int (nI pp)), (3, .int w)] [] (Q) := by
  obtain ⟨o2, o3, o4, o5, o6, o7, o8, o9⟩ := id hO
  intro i
  induction i with
  | zero =>
    intro t G1 hi hN
    have hi0 : t = hl 0 4 := by omega
    subst hi0
    refine x_iload dX12_saturdays_91 0 rfl ?_
    refine x_aload_n dX12_saturdays_93 6 rfl ?_
    refine x_get (v := .ref (y + 1)) dX12_saturdays_94 fX12_9 (hN.1) rfl ?_
    refine x_iconst dX12_saturdays_97 ki_4 ?_
    refine x_ialdN (n := 9) (f := scal ((satF xx (pp + 1) hl (hl 0 4)).2) (clearR hl) (sc.1, (satF xx (pp + 1) hl (hl 0 4)).1, sc.2.2)) dX12_saturdays_98 (hN.c1) (by decide) (by decide) ?_
    refine x_topi (y := nI ((satF xx (pp + 1) hl (hl 0 4)).2 0 4)) rfl ?_
    refine x_topi (y := nI (hl 0 4)) (by rw [satF_k _ _ _ (by decide)]) ?_
    refine x_icmpN_ge (tgt := 125) dX12_saturdays_99 (by decide) (by omega) (by omega) (fun c99 => ?_) (fun c99 => ?_)
    · exact next _ hN
    · exact absurd c99 (by omega)
  | succ i ih =>
    intro t G1 hi hN
    have hsx := satF_x (g := pp + 1) (hl := hl) hx t
    have hlo := satF_lo xx (pp + 1) hl (by omega) t t
    have hbt := hb 5 t
    have hc5t := hc5 t (by omega)
    have hOt := sat_hall (a := xx) (g := pp + 1) hO hc5 (by omega) (by omega) t
    refine x_iload dX12_saturdays_91 0 rfl ?_
    refine x_aload_n dX12_saturdays_93 6 rfl ?_
    refine x_get (v := .ref (y + 1)) dX12_saturdays_94 fX12_9 (hN.1) rfl ?_
    refine x_iconst dX12_saturdays_97 ki_4 ?_
    refine x_ialdN (n := 9) (f := scal ((satF xx (pp + 1) hl t).2) (clearR hl) (sc.1, (satF xx (pp + 1) hl t).1, sc.2.2)) dX12_saturdays_98 (hN.c1) (by decide) (by decide) ?_
    refine x_topi (y := nI ((satF xx (pp + 1) hl t).2 0 4)) rfl ?_
    refine x_topi (y := nI (hl 0 4)) (by rw [satF_k _ _ _ (by decide)]) ?_
    refine x_icmpN_ge (tgt := 125) dX12_saturdays_99 (by decide) (by omega) (by omega) (fun c99 => ?_) (fun c99 => ?_)
    · exact absurd c99 (by omega)
    · refine x_aload_n dX12_saturdays_102 6 rfl ?_
      refine x_get (v := .ref (y + 10)) dX12_saturdays_103 fX12_37 (hN.1) rfl ?_
      refine x_iload dX12_saturdays_106 0 rfl ?_
      refine x_pc (pc' := 108) rfl ?_
      refine x_dup2 dX12_saturdays_108 rfl rfl ?_
      refine x_ialdN (n := 7) (f := nF ((satF xx (pp + 1) hl t).2 5)) dX12_saturdays_109 (hN.c10) (by omega) (by decide) ?_
      refine x_aload_n dX12_saturdays_110 6 rfl ?_
      refine x_iload_n dX12_saturdays_111 8 rfl ?_
      refine x_iconst dX12_saturdays_112 ki_1 ?_
      refine x_iaddN dX12_saturdays_113 ?_
      refine x_cVe (N := mX12_draws) (d' := 0) (mc := 0) (ms := 0) (cb := 0) (sb := 0) (As := [.int (nI (pp + 1))]) (st := [.int (nI ((satF xx (pp + 1) hl t).2 5 t)), .int (nI t), .ref (y + 10)]) dX12_saturdays_114 mX12_draws_v lX12_503 rfl rfl (hN.1) rfl (by decide) (Nat.le_of_ble_eq_true rfl) (Md_draws hN hOt hsx (by omega) (by omega)) rfl (sf := fun G2 => [.int (nI (drwN (satF xx (pp + 1) hl t).1 / 65536 % (pp + 1))), .int (nI ((satF xx (pp + 1) hl t).2 5 t)), .int (nI t), .ref (y + 10)]) (fun _ => rfl) (fun G2 hq2 => ?_)
      have hdl := drw_lt (a := (satF xx (pp + 1) hl t).1) (g := pp + 1) (by omega)
      have hN2 : MW G0 G2 y (satF xx (pp + 1) hl t).2 (clearR hl) (sc.1, drwN (satF xx (pp + 1) hl t).1, sc.2.2) A F wa sa := hq2
      refine x_iaddN dX12_saturdays_117 ?_
      refine x_iastN (n := 7) (f := nF ((satF xx (pp + 1) hl t).2 5)) dX12_saturdays_118 (hN2.c10) (by omega) (by decide) ?_
      have hM1 := hN2.e10 t (((satF xx (pp + 1) hl t).2 5 t) + (drwN (satF xx (pp + 1) hl t).1 / 65536 % (pp + 1))) (by omega)
      refine x_iinc (v := nI (t + 1)) (ls' := [(9, .int (nI (t + 1))), (8, .int (nI k)), (7, .int g0), (6, .int s0), (5, .int (nI xx)), (4, .int (nI sc.2.1)), (0, .ref y), (1, .int (nI mm)), (2, .int (nI pp)), (3, .int w)]) dX12_saturdays_119 0 rfl (nIs _) (by decide) rfl ?_
      refine x_pc (pc' := 122) rfl ?_
      refine x_goto (tgt := 91) dX12_saturdays_122 (by decide) ?_
      exact ih (t + 1) _ (by omega) hM1
theorem Md_sat_loop {K : xG} {h y : Nat} {G0 : xHp} {hl : xHl} {r : xRw} {sc : Nat × Nat × Int32} {A : Nat → Nat → Int32} {F : Nat → Int32} {mm pp : Nat} {w : Int32} {rv : Option (List Nat)} (hk : Kept (A 44) hl r sc) (hb : ∀ i j, hl i j < 1000000) (hO : HallOk hl) (hV : RvR A sc rv) (hc5 : ∀ t, t < hl 0 4 → hl 5 t ≤ 300) (hp2 : ∀ s, s < hl 0 2 → hl 2 s < 200) (hx : sc.2.1 < 2 ^ 31) (hpp : pp ≤ 60) (hmm : mm ≤ 10) : ∀ (i k : Nat) (Fx : Nat → Int32) (w1 k1 : Nat → Int64) (G1 : xHp), k + i = mm → FS F Fx → MW G0 G1 y hl r sc A Fx w1 k1 → xV K mX12_saturdays 9 0 0 h G1 69 [(8, .int (nI k)), (7, .int ((saF hl rv (pp + 1) sc.2.1 k).2.2)), (6, .int ((saF hl rv (pp + 1) sc.2.1 k).2.1)), (5, .int (nI ((saF hl rv (pp + 1) sc.2.1 k).1))), (4, .int (nI sc.2.1)), (0, .ref y), (1, .int (nI mm)), (2, .int (nI pp)), (3, .int w)] [] (xEx (fun e : (Nat → Int32) × ((Nat → Int64) × (Nat → Int64)) × xHp => MW G0 e.2.2 y hl r sc A e.1 e.2.1.1 e.2.1.2 ∧ FS F e.1) (fun _ => some (.int (if w = 0 then (saF hl rv (pp + 1) sc.2.1 mm).2.1 else (saF hl rv (pp + 1) sc.2.1 mm).2.2))) (fun _ => h) (fun e => e.2.2)) := by
  obtain ⟨o2, o3, o4, o5, o6, o7, o8, o9⟩ := id hO
  intro i
  induction i with
  | zero =>
    intro k Fx w1 k1 G1 hi hfs hN
    have hi0 : k = mm := by omega
    subst hi0
    refine x_iload dX12_saturdays_69 0 rfl ?_
    refine x_iload_n dX12_saturdays_71 6 rfl ?_
    refine x_icmpN_ge (tgt := 173) dX12_saturdays_72 (by decide) (by omega) (by omega) (fun c72 => ?_) (fun c72 => ?_)
    · refine x_aload_n dX12_saturdays_173 5 rfl ?_
      refine x_get (v := .ref (y + 1)) dX12_saturdays_174 fX12_9 (hN.1) rfl ?_
      refine x_bipush dX12_saturdays_177 kb_7 ?_
      refine x_iload dX12_saturdays_179 4 rfl ?_
      refine x_iastN (n := 9) (f := scal hl r sc) dX12_saturdays_181 (hN.c1) (by decide) (by decide) ?_
      refine x_acong (g := scal hl r (sc.1, sc.2.1, sc.2.2)) scal_7 ?_
      refine x_gen (P := fun G' => MW G0 G' y hl r (sc.1, sc.2.1, sc.2.2) A Fx w1 k1) (hN.s1c (sc.1, sc.2.1, sc.2.2)) (fun G1 hN1 => ?_)
      refine x_iload_n dX12_saturdays_182 8 rfl ?_
      refine x_pc (pc' := 183) rfl ?_
      refine x_if_ne (tgt := 191) dX12_saturdays_183 (by decide) (fun c183 => ?_) (fun c183 => ?_)
      · refine x_iload dX12_saturdays_191 1 rfl ?_
        exact x_iret dX12_saturdays_193 rfl (xEx_i (Fx, (w1, k1), _) ⟨hN1, hfs⟩ (by rw [if_neg (show ¬ w = 0 from c183)]) rfl rfl)
      · refine x_iload dX12_saturdays_186 2 rfl ?_
        refine x_goto (tgt := 193) dX12_saturdays_188 (by decide) ?_
        exact x_iret dX12_saturdays_193 rfl (xEx_i (Fx, (w1, k1), _) ⟨hN1, hfs⟩ (by rw [if_pos (show w = 0 from c183)]) rfl rfl)
    · exact absurd c72 (by omega)
  | succ i ih =>
    intro k Fx w1 k1 G1 hi hfs hN
    have hsx := saF_x (hl := hl) (rv := rv) (g := pp + 1) hx k
    refine x_iload dX12_saturdays_69 0 rfl ?_
    refine x_iload_n dX12_saturdays_71 6 rfl ?_
    refine x_icmpN_ge (tgt := 173) dX12_saturdays_72 (by decide) (by omega) (by omega) (fun c72 => ?_) (fun c72 => ?_)
    · exact absurd c72 (by omega)
    · refine x_aload_n dX12_saturdays_75 5 rfl ?_
      refine x_cVe (N := mX12_begins) (d' := 1) (mc := 0) (ms := 0) (cb := 0) (sb := 0) (As := []) (st := []) dX12_saturdays_76 mX12_begins_v lX12_324 rfl rfl (hN.1) rfl (by decide) (Nat.le_of_ble_eq_true rfl) (Md_begins hN) rfl (sf := fun G4 => []) (fun _ => rfl) (fun G4 hN4 => ?_)
      refine x_aload_n dX12_saturdays_79 5 rfl ?_
      refine x_get (v := .ref (y + 1)) dX12_saturdays_80 fX12_9 (hN4.1) rfl ?_
      refine x_bipush dX12_saturdays_83 kb_7 ?_
      refine x_iload dX12_saturdays_85 3 rfl ?_
      refine x_pc (pc' := 87) rfl ?_
      refine x_iastN (n := 9) (f := scal hl (clearR hl) sc) dX12_saturdays_87 (hN4.c1) (by decide) (by decide) ?_
      refine x_acong (g := scal hl (clearR hl) (sc.1, (saF hl rv (pp + 1) sc.2.1 k).1, sc.2.2)) scal_7 ?_
      refine x_gen (P := fun G' => MW G0 G' y hl (clearR hl) (sc.1, (saF hl rv (pp + 1) sc.2.1 k).1, sc.2.2) A Fx w1 k1) (hN4.s1c (sc.1, (saF hl rv (pp + 1) sc.2.1 k).1, sc.2.2)) (fun G2 hN2 => ?_)
      refine x_iconst dX12_saturdays_88 ki_0 ?_
      refine x_istore (ls' := [(9, .int (nI 0)), (8, .int (nI k)), (7, .int ((saF hl rv (pp + 1) sc.2.1 k).2.2)), (6, .int ((saF hl rv (pp + 1) sc.2.1 k).2.1)), (5, .int (nI ((saF hl rv (pp + 1) sc.2.1 k).1))), (4, .int (nI sc.2.1)), (0, .ref y), (1, .int (nI mm)), (2, .int (nI pp)), (3, .int w)]) dX12_saturdays_89 (by decide) rfl ?_
      refine Md_sat_in (xx := (saF hl rv (pp + 1) sc.2.1 k).1) hO hc5 hsx hpp hb (fun G5 hN5 => ?_) (hl 0 4) 0 _ (by omega) hN2
      have hO5 := sat_hall (a := (saF hl rv (pp + 1) sc.2.1 k).1) (g := pp + 1) hO hc5 (by omega) (by omega) (hl 0 4)
      have hR5 : RowOk (satF (saF hl rv (pp + 1) sc.2.1 k).1 (pp + 1) hl (hl 0 4)).2 (clearR hl) := row_hall (clear_ok hO hp2) (fun j => satF_k _ _ _ (by decide) j _)
      refine x_aload_n dX12_saturdays_125 6 rfl ?_
      refine x_get (v := .ref (y + 1)) dX12_saturdays_126 fX12_9 (hN5.1) rfl ?_
      refine x_bipush dX12_saturdays_129 kb_7 ?_
      refine x_ialdN (n := 9) (f := scal ((satF (saF hl rv (pp + 1) sc.2.1 k).1 (pp + 1) hl (hl 0 4)).2) (clearR hl) (sc.1, (satF (saF hl rv (pp + 1) sc.2.1 k).1 (pp + 1) hl (hl 0 4)).1, sc.2.2)) dX12_saturdays_131 (hN5.c1) (by decide) (by decide) ?_
      refine x_topi (y := nI ((sc.1, (satF (saF hl rv (pp + 1) sc.2.1 k).1 (pp + 1) hl (hl 0 4)).1, sc.2.2).2.1)) rfl ?_
      refine x_istore (ls' := [(5, .int (nI ((sc.1, (satF (saF hl rv (pp + 1) sc.2.1 k).1 (pp + 1) hl (hl 0 4)).1, sc.2.2).2.1))), (9, .int (nI (hl 0 4))), (8, .int (nI k)), (7, .int ((saF hl rv (pp + 1) sc.2.1 k).2.2)), (6, .int ((saF hl rv (pp + 1) sc.2.1 k).2.1)), (4, .int (nI sc.2.1)), (0, .ref y), (1, .int (nI mm)), (2, .int (nI pp)), (3, .int w)]) dX12_saturdays_132 (by decide) rfl ?_
      refine x_aload_n dX12_saturdays_134 6 rfl ?_
      refine x_sipush dX12_saturdays_135 ks_400 ?_
      refine x_cVe (N := mX12_goFor) (d' := 8) (mc := 0) (ms := 0) (cb := 0) (sb := 0) (As := [.int (nI 400)]) (st := []) dX12_saturdays_138 mX12_goFor_v lX12_444 rfl rfl (hN5.1) rfl (by decide) (Nat.le_of_ble_eq_true rfl) (Md_goFor hN5 hO5 (hV.fo rfl) hR5 (by decide)) rfl (sf := fun e2 => []) (fun _ => rfl) (fun e2 hq2 => ?_)
      obtain ⟨⟨w2, k2⟩, G2⟩ := e2
      have hN2 : MW G0 G2 y (satF (saF hl rv (pp + 1) sc.2.1 k).1 (pp + 1) hl (hl 0 4)).2 (goN (satF (saF hl rv (pp + 1) sc.2.1 k).1 (pp + 1) hl (hl 0 4)).2 rv (clearR hl) 400) (sc.1, (satF (saF hl rv (pp + 1) sc.2.1 k).1 (pp + 1) hl (hl 0 4)).1, sc.2.2) A Fx w2 k2 := hq2
      refine x_iload dX12_saturdays_141 4 rfl ?_
      refine x_pc (pc' := 143) rfl ?_
      refine x_aload_n dX12_saturdays_143 6 rfl ?_
      refine x_cV (N := mX12_saved) (d' := 0) (mc := 0) (ms := 0) (cb := 0) (sb := 0) (As := []) (st := [.int ((saF hl rv (pp + 1) sc.2.1 k).2.1)]) dX12_saturdays_144 mX12_saved_v lX12_447 rfl rfl (hN2.1) rfl (by decide) (Nat.le_of_ble_eq_true rfl) (Md_saved hN2 hO5.2.2.1) rfl (st1 := [.int (savedS (satF (saF hl rv (pp + 1) sc.2.1 k).1 (pp + 1) hl (hl 0 4)).2 (goN (satF (saF hl rv (pp + 1) sc.2.1 k).1 (pp + 1) hl (hl 0 4)).2 rv (clearR hl) 400)), .int ((saF hl rv (pp + 1) sc.2.1 k).2.1)]) rfl ?_
      refine x_iadd dX12_saturdays_147 ?_
      refine x_istore (ls' := [(6, .int (((saF hl rv (pp + 1) sc.2.1 k).2.1) + (savedS (satF (saF hl rv (pp + 1) sc.2.1 k).1 (pp + 1) hl (hl 0 4)).2 (goN (satF (saF hl rv (pp + 1) sc.2.1 k).1 (pp + 1) hl (hl 0 4)).2 rv (clearR hl) 400)))), (5, .int (nI ((sc.1, (satF (saF hl rv (pp + 1) sc.2.1 k).1 (pp + 1) hl (hl 0 4)).1, sc.2.2).2.1))), (9, .int (nI (hl 0 4))), (8, .int (nI k)), (7, .int ((saF hl rv (pp + 1) sc.2.1 k).2.2)), (4, .int (nI sc.2.1)), (0, .ref y), (1, .int (nI mm)), (2, .int (nI pp)), (3, .int w)]) dX12_saturdays_148 (by decide) rfl ?_
      refine x_iload dX12_saturdays_150 4 rfl ?_
      refine x_aload_n dX12_saturdays_152 6 rfl ?_
      refine x_iconst dX12_saturdays_153 ki_4 ?_
      refine x_cV (N := mX12_thingsSo) (d' := 0) (mc := 0) (ms := 0) (cb := 0) (sb := 0) (As := [.int (nI 4)]) (st := [.int ((saF hl rv (pp + 1) sc.2.1 k).2.2)]) dX12_saturdays_154 mX12_thingsSo_v lX12_373 rfl rfl (hN2.1) rfl (by decide) (Nat.le_of_ble_eq_true rfl) (Md_thingsSo hN2 hO5.2.2.1) rfl (st1 := [.int (bitsOf (satF (saF hl rv (pp + 1) sc.2.1 k).1 (pp + 1) hl (hl 0 4)).2 (goN (satF (saF hl rv (pp + 1) sc.2.1 k).1 (pp + 1) hl (hl 0 4)).2 rv (clearR hl) 400) (nI 4)), .int ((saF hl rv (pp + 1) sc.2.1 k).2.2)]) rfl ?_
      refine x_cS (N := mX12_bits) (d' := 0) (mc := 0) (ms := 0) (cb := 0) (sb := 0) (As := [.int (bitsOf (satF (saF hl rv (pp + 1) sc.2.1 k).1 (pp + 1) hl (hl 0 4)).2 (goN (satF (saF hl rv (pp + 1) sc.2.1 k).1 (pp + 1) hl (hl 0 4)).2 rv (clearR hl) 400) (nI 4))]) (st := [.int ((saF hl rv (pp + 1) sc.2.1 k).2.2)]) dX12_saturdays_157 mX12_bits_s lX12_376 rfl (by decide) (Nat.le_of_ble_eq_true rfl) (Md_bits) rfl (st1 := [.int (btF (bitsOf (satF (saF hl rv (pp + 1) sc.2.1 k).1 (pp + 1) hl (hl 0 4)).2 (goN (satF (saF hl rv (pp + 1) sc.2.1 k).1 (pp + 1) hl (hl 0 4)).2 rv (clearR hl) 400) (nI 4)) 16), .int ((saF hl rv (pp + 1) sc.2.1 k).2.2)]) rfl ?_
      refine x_topi (y := nI (cntF (fun t => decide ((goN (satF (saF hl rv (pp + 1) sc.2.1 k).1 (pp + 1) hl (hl 0 4)).2 rv (clearR hl) 400) (21 + t) = nI 4)) (hl 0 4))) (by rw [bitsOf_bt _ _ _ hO5.2.2.1, satF_k _ _ _ (by decide)]) ?_
      refine x_iadd dX12_saturdays_160 ?_
      refine x_pc (pc' := 161) rfl ?_
      refine x_istore (ls' := [(7, .int (((saF hl rv (pp + 1) sc.2.1 k).2.2) + (nI (cntF (fun t => decide ((goN (satF (saF hl rv (pp + 1) sc.2.1 k).1 (pp + 1) hl (hl 0 4)).2 rv (clearR hl) 400) (21 + t) = nI 4)) (hl 0 4))))), (6, .int (((saF hl rv (pp + 1) sc.2.1 k).2.1) + (savedS (satF (saF hl rv (pp + 1) sc.2.1 k).1 (pp + 1) hl (hl 0 4)).2 (goN (satF (saF hl rv (pp + 1) sc.2.1 k).1 (pp + 1) hl (hl 0 4)).2 rv (clearR hl) 400)))), (5, .int (nI ((sc.1, (satF (saF hl rv (pp + 1) sc.2.1 k).1 (pp + 1) hl (hl 0 4)).1, sc.2.2).2.1))), (9, .int (nI (hl 0 4))), (8, .int (nI k)), (4, .int (nI sc.2.1)), (0, .ref y), (1, .int (nI mm)), (2, .int (nI pp)), (3, .int w)]) dX12_saturdays_161 (by decide) rfl ?_
      refine x_aload_n dX12_saturdays_163 6 rfl ?_
      refine x_cVe (N := mX12_laysBack) (d' := 2) (mc := 0) (ms := 0) (cb := 0) (sb := 0) (As := []) (st := []) dX12_saturdays_164 mX12_laysBack_v lX12_450 rfl rfl (hN2.1) rfl (by decide) (Nat.le_of_ble_eq_true rfl) (Md_laysBack hN2 hk hb) rfl (sf := fun G3 => []) (fun _ => rfl) (fun G3 hq3 => ?_)
      have hN3 : MW G0 G3 y hl r sc A (cF Fx 1 3650) w2 k2 := by have e := hq3; rw [sat_bk] at e; exact e
      refine x_iinc (v := nI (k + 1)) (ls' := [(8, .int (nI (k + 1))), (7, .int (((saF hl rv (pp + 1) sc.2.1 k).2.2) + (nI (cntF (fun t => decide ((goN (satF (saF hl rv (pp + 1) sc.2.1 k).1 (pp + 1) hl (hl 0 4)).2 rv (clearR hl) 400) (21 + t) = nI 4)) (hl 0 4))))), (6, .int (((saF hl rv (pp + 1) sc.2.1 k).2.1) + (savedS (satF (saF hl rv (pp + 1) sc.2.1 k).1 (pp + 1) hl (hl 0 4)).2 (goN (satF (saF hl rv (pp + 1) sc.2.1 k).1 (pp + 1) hl (hl 0 4)).2 rv (clearR hl) 400)))), (5, .int (nI ((sc.1, (satF (saF hl rv (pp + 1) sc.2.1 k).1 (pp + 1) hl (hl 0 4)).1, sc.2.2).2.1))), (9, .int (nI (hl 0 4))), (4, .int (nI sc.2.1)), (0, .ref y), (1, .int (nI mm)), (2, .int (nI pp)), (3, .int w)]) dX12_saturdays_167 4 rfl (nIs _) (by decide) rfl ?_
      refine x_goto (tgt := 69) dX12_saturdays_170 (by decide) ?_
      refine x_perm (ls' := [(8, .int (nI (k + 1))), (7, .int (((saF hl rv (pp + 1) sc.2.1 k).2.2) + (nI (cntF (fun t => decide ((goN (satF (saF hl rv (pp + 1) sc.2.1 k).1 (pp + 1) hl (hl 0 4)).2 rv (clearR hl) 400) (21 + t) = nI 4)) (hl 0 4))))), (6, .int (((saF hl rv (pp + 1) sc.2.1 k).2.1) + (savedS (satF (saF hl rv (pp + 1) sc.2.1 k).1 (pp + 1) hl (hl 0 4)).2 (goN (satF (saF hl rv (pp + 1) sc.2.1 k).1 (pp + 1) hl (hl 0 4)).2 rv (clearR hl) 400)))), (5, .int (nI ((sc.1, (satF (saF hl rv (pp + 1) sc.2.1 k).1 (pp + 1) hl (hl 0 4)).1, sc.2.2).2.1))), (4, .int (nI sc.2.1)), (0, .ref y), (1, .int (nI mm)), (2, .int (nI pp)), (3, .int w)]) [0, 1, 2, 3, 5, 6, 7, 8, 9] rfl ?_
      exact ih (k + 1) (cF Fx 1 3650) _ _ _ (by omega) (hfs.tr ⟨rfl, rfl, rfl, rfl⟩) hN3
theorem Md_sat_y {K : xG} {h y : Nat} {G0 G : xHp} {hl : xHl} {r : xRw} {sc : Nat × Nat × Int32} {A : Nat → Nat → Int32} {F : Nat → Int32} {wa sa : Nat → Int64} {mm pp : Nat} {w : Int32} (hM : MW G0 G y hl r sc A F wa sa) {rv : Option (List Nat)} (hO : HallOk hl) (hV : RvR A sc rv) (hrow : RowOk hl r) (h1 : 0 < hl 0 0) (hm1 : 1 ≤ mm) (hmm : mm ≤ 10) (hpp : pp ≤ 60) (hw : inR w 2 = true) (hc5 : ∀ t, t < hl 0 4 → hl 5 t ≤ 300) (hp2 : ∀ s, s < hl 0 2 → hl 2 s < 200) (hx : sc.2.1 < 2 ^ 31) : xCall K mX12_saturdays 9 0 0 [.ref y, .int (nI mm), .int (nI pp), .int w] h G (mdK G0 h y (some (.int (if w = 0 then (saF hl rv (pp + 1) sc.2.1 mm).2.1 else (saF hl rv (pp + 1) sc.2.1 mm).2.2))) hl r sc A F) := by
  refine x_entry (by decide) (ls := [(0, .ref y), (1, .int (nI mm)), (2, .int (nI pp)), (3, .int w)]) rfl (Nat.le_of_ble_eq_true rfl) ?_
  have hB := hM.hB
  obtain ⟨o2, o3, o4, o5, o6, o7, o8, o9⟩ := id hO
  refine x_aload_n dX12_saturdays_0 0 rfl ?_
  refine x_cV (N := mX12_isHall) (d' := 0) (mc := 0) (ms := 0) (cb := 0) (sb := 0) (As := []) (st := []) dX12_saturdays_1 mX12_isHall_v lX12_425 rfl rfl (hM.1) rfl (by decide) (Nat.le_of_ble_eq_true rfl) (Md_isHall hM) rfl (st1 := [.int (bI (decide (0 < hl 0 0)))]) rfl ?_
  refine x_ifB_eq (tgt := 41) dX12_saturdays_4 (by decide) (fun c4 => ?_) (fun c4 => ?_)
  · exact absurd c4 (by rw [decide_eq_true h1]; decide)
  · refine x_iload_n dX12_saturdays_7 1 rfl ?_
    refine x_i2l dX12_saturdays_8 ?_
    refine x_lconst (v := 1) dX12_saturdays_9 rfl ?_
    refine x_ldc2 dX12_saturdays_10 cX12_501 ?_
    refine x_cS (N := mX12_in) (d' := 0) (mc := 0) (ms := 0) (cb := 0) (sb := 0) (As := [.long ((nI mm).toInt64), .long 1, .long (10 : Int64)]) (st := []) dX12_saturdays_13 mX12_in_s lX12_155 rfl (by decide) (Nat.le_of_ble_eq_true rfl) (Md_in) rfl (st1 := [.int (bI (decide (1 ≤ (nI mm).toInt64 ∧ (nI mm).toInt64 ≤ (10 : Int64))))]) rfl ?_
    refine x_ifB_eq (tgt := 41) dX12_saturdays_16 (by decide) (fun c16 => ?_) (fun c16 => ?_)
    · exact absurd c16 (by rw [in_10, decide_eq_true ⟨nI_nlt (by omega) (by omega), nI_nlt (by omega) (by decide)⟩]; decide)
    · refine x_pc (pc' := 19) rfl ?_
      refine x_iload_n dX12_saturdays_19 2 rfl ?_
      refine x_i2l dX12_saturdays_20 ?_
      refine x_lconst (v := 0) dX12_saturdays_21 rfl ?_
      refine x_ldc2 dX12_saturdays_22 cX12_434 ?_
      refine x_cS (N := mX12_in) (d' := 0) (mc := 0) (ms := 0) (cb := 0) (sb := 0) (As := [.long ((nI pp).toInt64), .long 0, .long (60 : Int64)]) (st := []) dX12_saturdays_25 mX12_in_s lX12_155 rfl (by decide) (Nat.le_of_ble_eq_true rfl) (Md_in) rfl (st1 := [.int (bI (decide (0 ≤ (nI pp).toInt64 ∧ (nI pp).toInt64 ≤ (60 : Int64))))]) rfl ?_
      refine x_ifB_eq (tgt := 41) dX12_saturdays_28 (by decide) (fun c28 => ?_) (fun c28 => ?_)
      · exact absurd c28 (by rw [in_p60, inR_nI (by omega), decide_eq_true (show pp < 61 by omega)]; decide)
      · refine x_iload_n dX12_saturdays_31 3 rfl ?_
        refine x_i2l dX12_saturdays_32 ?_
        refine x_lconst (v := 0) dX12_saturdays_33 rfl ?_
        refine x_lconst (v := 1) dX12_saturdays_34 rfl ?_
        refine x_pc (pc' := 35) rfl ?_
        refine x_cS (N := mX12_in) (d' := 0) (mc := 0) (ms := 0) (cb := 0) (sb := 0) (As := [.long w.toInt64, .long 0, .long 1]) (st := []) dX12_saturdays_35 mX12_in_s lX12_155 rfl (by decide) (Nat.le_of_ble_eq_true rfl) (Md_in) rfl (st1 := [.int (bI (decide (0 ≤ w.toInt64 ∧ w.toInt64 ≤ 1)))]) rfl ?_
        refine x_ifB_ne (tgt := 43) dX12_saturdays_38 (by decide) (fun c38 => ?_) (fun c38 => ?_)
        · refine x_aload_n dX12_saturdays_43 0 rfl ?_
          refine x_get (v := .ref (y + 1)) dX12_saturdays_44 fX12_9 (hM.1) rfl ?_
          refine x_bipush dX12_saturdays_47 kb_7 ?_
          refine x_ialdN (n := 9) (f := scal hl r sc) dX12_saturdays_49 (hM.c1) (by decide) (by decide) ?_
          refine x_topi (y := nI sc.2.1) rfl ?_
          refine x_istore (ls' := [(4, .int (nI sc.2.1)), (0, .ref y), (1, .int (nI mm)), (2, .int (nI pp)), (3, .int w)]) dX12_saturdays_50 (by decide) rfl ?_
          refine x_iload dX12_saturdays_52 0 rfl ?_
          refine x_istore (ls' := [(5, .int (nI sc.2.1)), (4, .int (nI sc.2.1)), (0, .ref y), (1, .int (nI mm)), (2, .int (nI pp)), (3, .int w)]) dX12_saturdays_54 (by decide) rfl ?_
          refine x_iconst dX12_saturdays_56 ki_0 ?_
          refine x_pc (pc' := 57) rfl ?_
          refine x_istore (ls' := [(6, .int (nI 0)), (5, .int (nI sc.2.1)), (4, .int (nI sc.2.1)), (0, .ref y), (1, .int (nI mm)), (2, .int (nI pp)), (3, .int w)]) dX12_saturdays_57 (by decide) rfl ?_
          refine x_iconst dX12_saturdays_59 ki_0 ?_
          refine x_istore (ls' := [(7, .int (nI 0)), (6, .int (nI 0)), (5, .int (nI sc.2.1)), (4, .int (nI sc.2.1)), (0, .ref y), (1, .int (nI mm)), (2, .int (nI pp)), (3, .int w)]) dX12_saturdays_60 (by decide) rfl ?_
          refine x_aload_n dX12_saturdays_62 4 rfl ?_
          refine x_cVe (N := mX12_keepsAll) (d' := 2) (mc := 0) (ms := 0) (cb := 0) (sb := 0) (As := []) (st := []) dX12_saturdays_63 mX12_keepsAll_v lX12_441 rfl rfl (hM.1) rfl (by decide) (Nat.le_of_ble_eq_true rfl) (Md_keepsAll hM) rfl (sf := fun G1 => []) (fun _ => rfl) (fun G1 hN1 => ?_)
          refine x_iconst dX12_saturdays_66 ki_0 ?_
          refine x_istore (ls' := [(8, .int (nI 0)), (7, .int (nI 0)), (6, .int (nI 0)), (5, .int (nI sc.2.1)), (4, .int (nI sc.2.1)), (0, .ref y), (1, .int (nI mm)), (2, .int (nI pp)), (3, .int w)]) dX12_saturdays_67 (by decide) rfl ?_
          refine x_post (fun v h2 G9 hq => ?_) (Md_sat_loop (A := (setA A 44 (svI (ovr A hl r sc) 3600 9))) (F := cF F 0 3650) (Kept_sv (A := A)) hB hO (hV.set (by omega)) hc5 hp2 hx hpp hmm mm 0 (cF F 0 3650) wa sa G1 (by omega) FS.rf hN1)
          obtain ⟨⟨F9, ⟨w9, k9⟩, G8⟩, ⟨hq1, hq6⟩, hq2, hq3, hq4⟩ := hq
          exact ⟨((hl, (setA A 44 (svI (ovr A hl r sc) 3600 9)), F9), (w9, k9), G8), ⟨hq1, LX.rf hB, AS.kp, FS.tr ⟨rfl, rfl, rfl, rfl⟩ hq6⟩, hq2, hq3, hq4⟩
        · exact absurd c38 (by rw [in_01, hw]; decide)
