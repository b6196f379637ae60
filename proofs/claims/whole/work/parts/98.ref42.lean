theorem Md_has {K : xG} {h : Nat} {G : xHp} {v w : Int32} : xCall K mX12_has 0 0 0 [.int v, .int w] h G (xRet (some (.int (bI (hasB v w)))) h G) := by
  refine x_entry (by decide) (ls := [(0, .int v), (1, .int w)]) rfl (Nat.le_of_ble_eq_true rfl) ?_
  refine x_iload_n dX12_has_0 0 rfl ?_
  refine x_iload_n dX12_has_1 1 rfl ?_
  refine x_ishr dX12_has_2 ?_
  refine x_iconst dX12_has_3 ki_1 ?_
  refine x_iand dX12_has_4 ?_
  refine x_iconst dX12_has_5 ki_1 ?_
  refine x_icmp_ne (x := (v >>> (w &&& 31)) &&& (nI 1)) (y := nI 1) (tgt := 13) dX12_has_6 (by decide) (fun c6 => ?_) (fun c6 => ?_)
  · refine x_iconst dX12_has_13 ki_0 ?_
    exact x_zret dX12_has_14 rfl (by first | rfl | decide | exact bI_nar _) (xRet_e (by rw [show hasB v w = false from decide_eq_false c6]; rfl) rfl)
  · refine x_iconst dX12_has_9 ki_1 ?_
    refine x_goto (tgt := 14) dX12_has_10 (by decide) ?_
    refine x_pc (pc' := 14) rfl ?_
    exact x_zret dX12_has_14 rfl (by first | rfl | decide | exact bI_nar _) (xRet_e (by rw [show hasB v w = true from decide_eq_true c6]; rfl) rfl)
theorem clr4 {f : Nat → Int32} {x : Int32} {s : Nat} (h : s < 4) : upd (upd (upd (upd f 0 x) 1 x) 2 x) 3 x s = x := by
  obtain e | e | e | e : s = 0 ∨ s = 1 ∨ s = 2 ∨ s = 3 := by omega
  all_goals (subst e; rfl)
theorem Md_lays_loop {K : xG} {h y : Nat} {G0 : xHp} {hl : xHl} {r : xRw} {sc : Nat × Nat × Int32} {A : Nat → Nat → Int32} {F : Nat → Int32} {wa sa : Nat → Int64} {P : Nat → Nat} {cd : Nat} (hO : HallOk hl) (hP : ∀ s, s < hl 0 2 → P s < 1000 ∧ r (1 + s) = nI (P s)) (hcd : cd < 10000) : ∀ (n rest v : Nat) (Ax : Nat → Nat → Int32) (Fx : Nat → Int32) (G1 : xHp), n ≤ hl 0 3 → rest = cd / (hl 0 4 + 1) ^ (hl 0 3 - n) → okT hl r P (rwD hl cd) n → TkR v (rwD hl cd) n (hl 0 3) → RwR (Ax 39) (rwD hl cd) n (hl 0 3) → UsR (Ax 41) hl (rwD hl cd) n → Fx 57 = nI (WSm hl (rwD hl cd) (hl 0 3) - WSm hl (rwD hl cd) n) → Fx 58 = nI (MSm hl (rwD hl cd) (hl 0 3) - MSm hl (rwD hl cd) n) → AS A Ax → Ax 40 = A 40 → FS F Fx → MW G0 G1 y hl r sc Ax Fx wa sa → xV K mX12_laysRow 3 0 0 h G1 57 [(5, .int (nI n + (-1))), (4, .int (nI v)), (3, .int (nI rest)), (2, .int (nI (hl 0 4 + 1))), (0, .ref y), (1, .int (nI cd))] [] (lyQ G0 h y hl r sc A F wa sa P (rwD hl cd)) := by
  obtain ⟨o2, o3, o4, o5, o6, o7, o8, o9⟩ := id hO
  intro n
  induction n with
  | zero =>
    intro rest v Ax Fx G1 hn hr ok tk hrw us h57 h58 hax h40 hfs hN
    refine x_leq (ls' := [(5, .int (-1)), (4, .int (nI v)), (3, .int (nI rest)), (2, .int (nI (hl 0 4 + 1))), (0, .ref y), (1, .int (nI cd))]) rfl ?_
    refine x_iload dX12_laysRow_57 0 rfl ?_
    refine x_if_lt (tgt := 219) dX12_laysRow_59 (by decide) (fun c59 => ?_) (fun c59 => ?_)
    · refine x_iconst dX12_laysRow_219 ki_1 ?_
      exact x_zret dX12_laysRow_220 rfl (by first | rfl | decide | exact bI_nar _) (xEx_i ((Ax, Fx), G1) ⟨hN, hax, h40, hfs, fun _ => ⟨fun i hi => hrw i (Nat.zero_le i) hi, h57, h58⟩⟩ (by rw [ok2_t (okT_0 ok)]; rfl) rfl rfl)
    · exact absurd (show (-1 : Int32) < 0 by decide) c59
  | succ n ih =>
    intro rest v Ax Fx G1 hn hr ok tk hrw us h57 h58 hax h40 hfs hN
    have hB := hN.hB
    have b4 := hB 0 4
    have hrl : rest ≤ cd := by rw [hr]; exact Nat.div_le_self _ _
    have hdg : (rwD hl cd) n = rest % (hl 0 4 + 1) := by rw [rwD_at (by omega), hr, show hl 0 3 - 1 - n = hl 0 3 - (n + 1) by omega]
    have hrs : rest / (hl 0 4 + 1) = cd / (hl 0 4 + 1) ^ (hl 0 3 - n) := by rw [hr]; exact rest_s (by omega)
    have hml := Nat.mod_lt rest (show 0 < hl 0 4 + 1 by omega)
    have hrl2 : rest / (hl 0 4 + 1) ≤ rest := Nat.div_le_self _ _
    refine x_leq (ls' := [(5, .int (nI n)), (4, .int (nI v)), (3, .int (nI rest)), (2, .int (nI (hl 0 4 + 1))), (0, .ref y), (1, .int (nI cd))]) (by rw [show nI (n + 1) + (-1) = nI n from pk_m1 n]) ?_
    refine x_iload dX12_laysRow_57 0 rfl ?_
    refine x_ifN_lt (tgt := 219) dX12_laysRow_59 (by decide) (by omega) (fun c59 => ?_) (fun c59 => ?_)
    · exact c59.elim
    · refine x_iload_n dX12_laysRow_62 2 rfl ?_
      refine x_iload_n dX12_laysRow_63 3 rfl ?_
      refine x_iremN dX12_laysRow_64 (by omega) (by omega) (by omega) ?_
      refine x_iconst dX12_laysRow_65 ki_1 ?_
      refine x_isub dX12_laysRow_66 ?_
      by_cases hd : rest % (hl 0 4 + 1) = 0
      · have h0 : (rwD hl cd) n = 0 := hdg.trans hd
        refine x_topi (y := (-1)) (by rw [hd]; rfl) ?_
        refine x_istore (ls' := [(6, .int (-1)), (5, .int (nI n)), (4, .int (nI v)), (3, .int (nI rest)), (2, .int (nI (hl 0 4 + 1))), (0, .ref y), (1, .int (nI cd))]) dX12_laysRow_67 (by decide) rfl ?_
        refine x_iload_n dX12_laysRow_69 3 rfl ?_
        refine x_pc (pc' := 70) rfl ?_
        refine x_iload_n dX12_laysRow_70 4 rfl ?_
        refine x_idivN dX12_laysRow_71 (by omega) (by omega) (by omega) ?_
        refine x_istore_n (ls' := [(3, .int (nI (rest / (hl 0 4 + 1)))), (6, .int (-1)), (5, .int (nI n)), (4, .int (nI v)), (2, .int (nI (hl 0 4 + 1))), (0, .ref y), (1, .int (nI cd))]) dX12_laysRow_72 (by decide) rfl ?_
        refine x_aload_n dX12_laysRow_73 5 rfl ?_
        refine x_get (v := .ref (y + 39)) dX12_laysRow_74 fX12_130 (hN.1) rfl ?_
        refine x_iload dX12_laysRow_77 2 rfl ?_
        refine x_iload dX12_laysRow_79 1 rfl ?_
        refine x_iastN (n := 4) (f := Ax 39) dX12_laysRow_81 (hN.c39) (by omega) (by decide) ?_
        have hM1 := hN.a39 (upd (Ax 39) n (-1))
        refine x_iload dX12_laysRow_82 1 rfl ?_
        refine x_iconst dX12_laysRow_84 ki_m1 ?_
        refine x_pc (pc' := 85) rfl ?_
        refine x_icmp_eq (x := (-1)) (y := (-1)) (tgt := 213) dX12_laysRow_85 (by decide) (fun c85 => ?_) (fun c85 => ?_)
        · refine x_iinc (v := nI n + (-1)) (ls' := [(5, .int (nI n + (-1))), (3, .int (nI (rest / (hl 0 4 + 1)))), (6, .int (-1)), (4, .int (nI v)), (2, .int (nI (hl 0 4 + 1))), (0, .ref y), (1, .int (nI cd))]) dX12_laysRow_213 2 rfl (by rw [ki_m1]) (by decide) rfl ?_
          refine x_goto (tgt := 57) dX12_laysRow_216 (by decide) ?_
          refine x_perm (ls' := [(5, .int (nI n + (-1))), (4, .int (nI v)), (3, .int (nI (rest / (hl 0 4 + 1)))), (2, .int (nI (hl 0 4 + 1))), (0, .ref y), (1, .int (nI cd))]) [0, 3, 1, 4, 5, 6] rfl ?_
          exact ih (rest / (hl 0 4 + 1)) v (setA Ax 39 (upd (Ax 39) n (-1))) Fx _ (by omega) hrs (okT_none ok h0) (tk_none tk h0) (rw_st hrw (by rw [h0]; rfl)) (us_none us h0) (by rw [h57, ws_none h0]) (by rw [h58, ms_none h0]) (hax.st (by decide)) h40 hfs hM1
        · exact absurd rfl c85
      · obtain ⟨t, ht⟩ : ∃ t, rest % (hl 0 4 + 1) = t + 1 := ⟨rest % (hl 0 4 + 1) - 1, by omega⟩
        have hrt : (rwD hl cd) n = t + 1 := hdg.trans ht
        have ht4 : t < hl 0 4 := by omega
        obtain ⟨q1, q2, q3, q4⟩ := o5 t ht4
        obtain ⟨p1, p2⟩ := hP (hl 4 t) q1
        have hUl := UN_le (hl := hl) (ρ := (rwD hl cd)) (s := hl 4 t) hO (q := hl 0 3) (fun i hi => rwD_le hi)
        refine x_topi (y := nI t) (by rw [ht]; exact pk_sub (a := t + 1) (b := 1) (by omega)) ?_
        refine x_istore (ls' := [(6, .int (nI t)), (5, .int (nI n)), (4, .int (nI v)), (3, .int (nI rest)), (2, .int (nI (hl 0 4 + 1))), (0, .ref y), (1, .int (nI cd))]) dX12_laysRow_67 (by decide) rfl ?_
        refine x_iload_n dX12_laysRow_69 3 rfl ?_
        refine x_pc (pc' := 70) rfl ?_
        refine x_iload_n dX12_laysRow_70 4 rfl ?_
        refine x_idivN dX12_laysRow_71 (by omega) (by omega) (by omega) ?_
        refine x_istore_n (ls' := [(3, .int (nI (rest / (hl 0 4 + 1)))), (6, .int (nI t)), (5, .int (nI n)), (4, .int (nI v)), (2, .int (nI (hl 0 4 + 1))), (0, .ref y), (1, .int (nI cd))]) dX12_laysRow_72 (by decide) rfl ?_
        refine x_aload_n dX12_laysRow_73 5 rfl ?_
        refine x_get (v := .ref (y + 39)) dX12_laysRow_74 fX12_130 (hN.1) rfl ?_
        refine x_iload dX12_laysRow_77 2 rfl ?_
        refine x_iload dX12_laysRow_79 1 rfl ?_
        refine x_iastN (n := 4) (f := Ax 39) dX12_laysRow_81 (hN.c39) (by omega) (by decide) ?_
        have hM2 := hN.a39 (upd (Ax 39) n (nI t))
        refine x_iload dX12_laysRow_82 1 rfl ?_
        refine x_iconst dX12_laysRow_84 ki_m1 ?_
        refine x_pc (pc' := 85) rfl ?_
        refine x_icmp_eq (x := nI t) (y := (-1)) (tgt := 213) dX12_laysRow_85 (by decide) (fun c85 => ?_) (fun c85 => ?_)
        · exact absurd c85 (nI_ne1 (by omega))
        · refine x_aload_n dX12_laysRow_88 5 rfl ?_
          refine x_iload dX12_laysRow_89 2 rfl ?_
          refine x_cV (N := mX12_isFree) (d' := 2) (mc := 0) (ms := 0) (cb := 0) (sb := 0) (As := [.int (nI n)]) (st := []) dX12_laysRow_91 mX12_isFree_v lX12_431 rfl rfl (hM2.1) rfl (by decide) (Nat.le_of_ble_eq_true rfl) (Md_isFree hM2 o3) rfl (st1 := [.int (bI (inR (nI n) (hl 0 3) && decide (r (5 + thN (nI n)) = -1)))]) rfl ?_
          refine x_ifB_eq (tgt := 118) dX12_laysRow_94 (by decide) (fun c94 => ?_) (fun c94 => ?_)
          · have hbad : ¬ okP hl r P (rwD hl cd) (hl 0 3) := bad_free (by omega) hrt (fun q => by rw [inR_nI (by omega), thN_nI (by omega), decide_eq_true (show n < hl 0 3 by omega), q] at c94; exact absurd c94 (by decide))
            refine x_iconst dX12_laysRow_118 ki_0 ?_
            exact x_zret dX12_laysRow_119 rfl (by first | rfl | decide | exact bI_nar _) (xEx_i (((setA Ax 39 (upd (Ax 39) n (nI t))), Fx), _) ⟨hM2, hax.st (by decide), h40, hfs, fun q => absurd (ok2_p q) hbad⟩ (by rw [ok2_f hbad]; rfl) rfl rfl)
          · have hfr : r (5 + n) = -1 := by rw [inR_nI (by omega), thN_nI (by omega), Bool.and_eq_true] at c94; exact of_decide_eq_true c94.2
            refine x_iload dX12_laysRow_97 3 rfl ?_
            refine x_iload dX12_laysRow_99 1 rfl ?_
            refine x_cS (N := mX12_has) (d' := 0) (mc := 0) (ms := 0) (cb := 0) (sb := 0) (As := [.int (nI v), .int (nI t)]) (st := []) dX12_laysRow_101 mX12_has_s lX12_474 rfl (by decide) (Nat.le_of_ble_eq_true rfl) (Md_has) rfl (st1 := [.int (bI (hasB (nI v) (nI t)))]) rfl ?_
            refine x_ifB_ne (tgt := 118) dX12_laysRow_104 (by decide) (fun c104 => ?_) (fun c104 => ?_)
            · have hbad : ¬ okP hl r P (rwD hl cd) (hl 0 3) := bad_tak (by omega) hrt (((tk.2 t (by omega)).mp ((bit_chk v tk.1 t (by omega)).1.symm.trans c104)))
              refine x_iconst dX12_laysRow_118 ki_0 ?_
              refine x_pc (pc' := 119) rfl ?_
              exact x_zret dX12_laysRow_119 rfl (by first | rfl | decide | exact bI_nar _) (xEx_i (((setA Ax 39 (upd (Ax 39) n (nI t))), Fx), _) ⟨hM2, hax.st (by decide), h40, hfs, fun q => absurd (ok2_p q) hbad⟩ (by rw [ok2_f hbad]; rfl) rfl rfl)
            · have hnt : ¬ ∃ i, n + 1 ≤ i ∧ i < hl 0 3 ∧ (rwD hl cd) i = t + 1 := fun q => by have e1 := (tk.2 t (by omega)).mpr q; rw [(bit_chk v tk.1 t (by omega)).1, e1] at c104; exact absurd c104 (by decide)
              refine x_aload_n dX12_laysRow_107 5 rfl ?_
              refine x_pc (pc' := 108) rfl ?_
              refine x_iload dX12_laysRow_108 2 rfl ?_
              refine x_iload dX12_laysRow_110 1 rfl ?_
              refine x_cV (N := mX12_canTake) (d' := 0) (mc := 0) (ms := 0) (cb := 0) (sb := 0) (As := [.int (nI n), .int (nI t)]) (st := []) dX12_laysRow_112 mX12_canTake_v lX12_383 rfl rfl (hM2.1) rfl (by decide) (Nat.le_of_ble_eq_true rfl) (Md_canTake hM2 (by omega) (by omega) (by have := o5 t (by omega); omega)) rfl (st1 := [.int (bI (canT hl r n t))]) rfl ?_
              refine x_ifB_ne (tgt := 120) dX12_laysRow_115 (by decide) (fun c115 => ?_) (fun c115 => ?_)
              · have hk : 0 < hl 3 (n * 4 + hl 4 t) := (of_decide_eq_true c115).2.1
                refine x_iload dX12_laysRow_120 3 rfl ?_
                refine x_iconst dX12_laysRow_122 ki_1 ?_
                refine x_iload dX12_laysRow_123 1 rfl ?_
                refine x_ishl dX12_laysRow_125 ?_
                refine x_ior dX12_laysRow_126 ?_
                refine x_topi (y := nI (v ||| 2 ^ t)) ((bit_chk v tk.1 t (by omega)).2.1) ?_
                refine x_istore (ls' := [(4, .int (nI (v ||| 2 ^ t))), (3, .int (nI (rest / (hl 0 4 + 1)))), (6, .int (nI t)), (5, .int (nI n)), (2, .int (nI (hl 0 4 + 1))), (0, .ref y), (1, .int (nI cd))]) dX12_laysRow_127 (by decide) rfl ?_
                refine x_pc (pc' := 129) rfl ?_
                refine x_aload_n dX12_laysRow_129 5 rfl ?_
                refine x_get (v := .ref (y + 41)) dX12_laysRow_130 fX12_136 (hM2.1) rfl ?_
                refine x_aload_n dX12_laysRow_133 5 rfl ?_
                refine x_get (v := .ref (y + 9)) dX12_laysRow_134 fX12_34 (hM2.1) rfl ?_
                refine x_iload dX12_laysRow_137 2 rfl ?_
                refine x_ialdN (n := 7) (f := nF (hl 4)) dX12_laysRow_139 (hM2.c9) (by omega) (by decide) ?_
                refine x_dup2 dX12_laysRow_140 rfl rfl ?_
                refine x_ialdN (n := 4) (f := Ax 41) dX12_laysRow_141 (hM2.c41) (by omega) (by decide) ?_
                refine x_topi (y := nI (UN hl (rwD hl cd) (hl 4 t) (hl 0 3) - UN hl (rwD hl cd) (hl 4 t) (n + 1))) (us (hl 4 t) q1) ?_
                refine x_aload_n dX12_laysRow_142 5 rfl ?_
                refine x_get (v := .ref (y + 12)) dX12_laysRow_143 fX12_43 (hM2.1) rfl ?_
                refine x_pc (pc' := 146) rfl ?_
                refine x_iload dX12_laysRow_146 2 rfl ?_
                refine x_ialdN (n := 7) (f := nF (hl 7)) dX12_laysRow_148 (hM2.c12) (by omega) (by decide) ?_
                refine x_iaddN dX12_laysRow_149 ?_
                refine x_iastN (n := 4) (f := Ax 41) dX12_laysRow_150 (hM2.c41) (by omega) (by decide) ?_
                have hM3 := hM2.a41 (upd (Ax 41) (hl 4 t) (nI ((UN hl (rwD hl cd) (hl 4 t) (hl 0 3) - UN hl (rwD hl cd) (hl 4 t) (n + 1)) + (hl 7 t))))
                refine x_aload_n dX12_laysRow_151 5 rfl ?_
                refine x_dup dX12_laysRow_152 rfl ?_
                refine x_get (v := .int (Fx 57)) dX12_laysRow_153 fX12_468 (hM3.1) rfl ?_
                refine x_topi (y := nI (WSm hl (rwD hl cd) (hl 0 3) - WSm hl (rwD hl cd) (n + 1))) h57 ?_
                refine x_aload_n dX12_laysRow_156 5 rfl ?_
                refine x_get (v := .ref (y + 11)) dX12_laysRow_157 fX12_40 (hM3.1) rfl ?_
                refine x_iload dX12_laysRow_160 2 rfl ?_
                refine x_pc (pc' := 162) rfl ?_
                refine x_ialdN (n := 7) (f := nF (hl 6)) dX12_laysRow_162 (hM3.c11) (by omega) (by decide) ?_
                refine x_iaddN dX12_laysRow_163 ?_
                refine x_put (fs' := [.int (Fx 0), .ref (y + 1), .ref (y + 2), .ref (y + 3), .ref (y + 4), .ref (y + 5), .ref (y + 6), .ref (y + 7), .ref (y + 8), .ref (y + 9), .ref (y + 10), .ref (y + 11), .ref (y + 12), .ref (y + 13), .ref (y + 14), .ref (y + 15), .ref (y + 16), .ref (y + 17), .ref (y + 18), .ref (y + 19), .ref (y + 20), .ref (y + 21), .ref (y + 22), .ref (y + 23), .ref (y + 24), .ref (y + 25), .ref (y + 26), .int (Fx 27), .int (Fx 28), .int (Fx 29), .int (Fx 30), .int (Fx 31), .int (Fx 32), .int (Fx 33), .int (Fx 34), .int (Fx 35), .int (Fx 36), .ref (y + 27), .ref (y + 28), .ref (y + 29), .ref (y + 30), .ref (y + 31), .ref (y + 32), .ref (y + 33), .ref (y + 34), .ref (y + 35), .ref (y + 36), .ref (y + 37), .ref (y + 38), .int (Fx 49), .int (Fx 50), .int (Fx 51), .int (Fx 52), .int (Fx 53), .ref (y + 39), .ref (y + 40), .ref (y + 41), .int (nI ((WSm hl (rwD hl cd) (hl 0 3) - WSm hl (rwD hl cd) (n + 1)) + (hl 6 t))), .int (Fx 58), .ref (y + 42), .ref (y + 43), .ref (y + 44), .ref (y + 45), .int (Fx 63), .int (Fx 64)]) dX12_laysRow_164 fX12_468 (hM3.1) (Nat.le_of_ble_eq_true rfl) rfl rfl rfl ?_
                refine x_geq (G' := xup _ y (modO y (upd Fx 57 (nI ((WSm hl (rwD hl cd) (hl 0 3) - WSm hl (rwD hl cd) (n + 1)) + (hl 6 t)))))) rfl ?_
                have hM4 := hM3.fld (upd Fx 57 (nI ((WSm hl (rwD hl cd) (hl 0 3) - WSm hl (rwD hl cd) (n + 1)) + (hl 6 t))))
                refine x_aload_n dX12_laysRow_167 5 rfl ?_
                refine x_dup dX12_laysRow_168 rfl ?_
                refine x_get (v := .int (Fx 58)) dX12_laysRow_169 fX12_471 (hM4.1) rfl ?_
                refine x_topi (y := nI (MSm hl (rwD hl cd) (hl 0 3) - MSm hl (rwD hl cd) (n + 1))) h58 ?_
                refine x_aload_n dX12_laysRow_172 5 rfl ?_
                refine x_iload dX12_laysRow_173 3 rfl ?_
                refine x_iload dX12_laysRow_175 2 rfl ?_
                refine x_cV (N := mX12_lasts) (d' := 0) (mc := 0) (ms := 0) (cb := 0) (sb := 0) (As := [.int (nI n), .int (nI t)]) (st := [.int (nI (MSm hl (rwD hl cd) (hl 0 3) - MSm hl (rwD hl cd) (n + 1))), .ref y]) dX12_laysRow_177 mX12_lasts_v lX12_370 rfl rfl (hM4.1) rfl (by decide) (Nat.le_of_ble_eq_true rfl) (Md_lasts hM4 (by omega) (by omega) (by omega) hk (by have := o6 (n * 4 + hl 4 t) (by omega); omega)) rfl (st1 := [.int (nI (effS hl n t)), .int (nI (MSm hl (rwD hl cd) (hl 0 3) - MSm hl (rwD hl cd) (n + 1))), .ref y]) rfl ?_
                refine x_pc (pc' := 180) rfl ?_
                refine x_iaddN dX12_laysRow_180 ?_
                refine x_put (fs' := [.int (Fx 0), .ref (y + 1), .ref (y + 2), .ref (y + 3), .ref (y + 4), .ref (y + 5), .ref (y + 6), .ref (y + 7), .ref (y + 8), .ref (y + 9), .ref (y + 10), .ref (y + 11), .ref (y + 12), .ref (y + 13), .ref (y + 14), .ref (y + 15), .ref (y + 16), .ref (y + 17), .ref (y + 18), .ref (y + 19), .ref (y + 20), .ref (y + 21), .ref (y + 22), .ref (y + 23), .ref (y + 24), .ref (y + 25), .ref (y + 26), .int (Fx 27), .int (Fx 28), .int (Fx 29), .int (Fx 30), .int (Fx 31), .int (Fx 32), .int (Fx 33), .int (Fx 34), .int (Fx 35), .int (Fx 36), .ref (y + 27), .ref (y + 28), .ref (y + 29), .ref (y + 30), .ref (y + 31), .ref (y + 32), .ref (y + 33), .ref (y + 34), .ref (y + 35), .ref (y + 36), .ref (y + 37), .ref (y + 38), .int (Fx 49), .int (Fx 50), .int (Fx 51), .int (Fx 52), .int (Fx 53), .ref (y + 39), .ref (y + 40), .ref (y + 41), .int (nI ((WSm hl (rwD hl cd) (hl 0 3) - WSm hl (rwD hl cd) (n + 1)) + (hl 6 t))), .int (nI ((MSm hl (rwD hl cd) (hl 0 3) - MSm hl (rwD hl cd) (n + 1)) + (effS hl n t))), .ref (y + 42), .ref (y + 43), .ref (y + 44), .ref (y + 45), .int (Fx 63), .int (Fx 64)]) dX12_laysRow_181 fX12_471 (hM4.1) (Nat.le_of_ble_eq_true rfl) rfl rfl rfl ?_
                refine x_geq (G' := xup _ y (modO y (upd (upd Fx 57 (nI ((WSm hl (rwD hl cd) (hl 0 3) - WSm hl (rwD hl cd) (n + 1)) + (hl 6 t)))) 58 (nI ((MSm hl (rwD hl cd) (hl 0 3) - MSm hl (rwD hl cd) (n + 1)) + (effS hl n t)))))) rfl ?_
                have hM5 := hM4.fld (upd (upd Fx 57 (nI ((WSm hl (rwD hl cd) (hl 0 3) - WSm hl (rwD hl cd) (n + 1)) + (hl 6 t)))) 58 (nI ((MSm hl (rwD hl cd) (hl 0 3) - MSm hl (rwD hl cd) (n + 1)) + (effS hl n t))))
                refine x_aload_n dX12_laysRow_184 5 rfl ?_
                refine x_get (v := .ref (y + 41)) dX12_laysRow_185 fX12_136 (hM5.1) rfl ?_
                refine x_aload_n dX12_laysRow_188 5 rfl ?_
                refine x_get (v := .ref (y + 9)) dX12_laysRow_189 fX12_34 (hM5.1) rfl ?_
                refine x_iload dX12_laysRow_192 2 rfl ?_
                refine x_ialdN (n := 7) (f := nF (hl 4)) dX12_laysRow_194 (hM5.c9) (by omega) (by decide) ?_
                refine x_ialdN (n := 4) (f := (upd (Ax 41) (hl 4 t) (nI ((UN hl (rwD hl cd) (hl 4 t) (hl 0 3) - UN hl (rwD hl cd) (hl 4 t) (n + 1)) + (hl 7 t))))) dX12_laysRow_195 (hM5.c41) (by omega) (by decide) ?_
                refine x_topi (y := nI (UN hl (rwD hl cd) (hl 4 t) (hl 0 3) - UN hl (rwD hl cd) (hl 4 t) (n + 1) + hl 7 t)) (upd_at) ?_
                refine x_aload_n dX12_laysRow_196 5 rfl ?_
                refine x_pc (pc' := 197) rfl ?_
                refine x_get (v := .ref (y + 3)) dX12_laysRow_197 fX12_16 (hM5.1) rfl ?_
                refine x_aload_n dX12_laysRow_200 5 rfl ?_
                refine x_get (v := .ref (y + 9)) dX12_laysRow_201 fX12_34 (hM5.1) rfl ?_
                refine x_iload dX12_laysRow_204 2 rfl ?_
                refine x_ialdN (n := 7) (f := nF (hl 4)) dX12_laysRow_206 (hM5.c9) (by omega) (by decide) ?_
                refine x_ialdN (n := 4) (f := blk r 1 4) dX12_laysRow_207 (hM5.c3) (by omega) (by decide) ?_
                refine x_topi (y := r (1 + (hl 4 t))) (blk_at (by omega)) ?_
                refine x_topi (y := nI (P (hl 4 t))) p2 ?_
                refine x_icmpN_le (tgt := 213) dX12_laysRow_208 (by decide) (by omega) (by omega) (fun c208 => ?_) (fun c208 => ?_)
                · refine x_iinc (v := nI n + (-1)) (ls' := [(5, .int (nI n + (-1))), (4, .int (nI (v ||| 2 ^ t))), (3, .int (nI (rest / (hl 0 4 + 1)))), (6, .int (nI t)), (2, .int (nI (hl 0 4 + 1))), (0, .ref y), (1, .int (nI cd))]) dX12_laysRow_213 3 rfl (by rw [ki_m1]) (by decide) rfl ?_
                  refine x_goto (tgt := 57) dX12_laysRow_216 (by decide) ?_
                  refine x_perm (ls' := [(5, .int (nI n + (-1))), (4, .int (nI (v ||| 2 ^ t))), (3, .int (nI (rest / (hl 0 4 + 1)))), (2, .int (nI (hl 0 4 + 1))), (0, .ref y), (1, .int (nI cd))]) [0, 1, 2, 4, 5, 6] rfl ?_
                  exact ih (rest / (hl 0 4 + 1)) (v ||| 2 ^ t) (setA (setA Ax 39 (upd (Ax 39) n (nI t))) 41 (upd (Ax 41) (hl 4 t) (nI ((UN hl (rwD hl cd) (hl 4 t) (hl 0 3) - UN hl (rwD hl cd) (hl 4 t) (n + 1)) + (hl 7 t))))) (upd (upd Fx 57 (nI ((WSm hl (rwD hl cd) (hl 0 3) - WSm hl (rwD hl cd) (n + 1)) + (hl 6 t)))) 58 (nI ((MSm hl (rwD hl cd) (hl 0 3) - MSm hl (rwD hl cd) (n + 1)) + (effS hl n t)))) _ (by omega) hrs (okT_thing ok (by omega) hrt hfr c115 hnt (by rw [← un_thing (by omega) hrt]; exact c208)) (tk_thing tk (by omega) hrt (by omega)) (rw_st hrw (by rw [hrt]; rfl)) (us_thing us (by omega) hrt) (by rw [← ws_thing (by omega) hrt]; rfl) (by rw [← ms_thing (by omega) hrt]; rfl) ((hax.st (by decide)).st (by decide)) h40 ⟨hfs.1, hfs.2.1, hfs.2.2.1, hfs.2.2.2⟩ hM5
                · have hbad : ¬ okP hl r P (rwD hl cd) (hl 0 3) := bad_use (n := n) q1 (by rw [← un_thing (by omega) hrt]; exact c208)
                  refine x_iconst dX12_laysRow_211 ki_0 ?_
                  exact x_zret dX12_laysRow_212 rfl (by first | rfl | decide | exact bI_nar _) (xEx_i (((setA (setA Ax 39 (upd (Ax 39) n (nI t))) 41 (upd (Ax 41) (hl 4 t) (nI ((UN hl (rwD hl cd) (hl 4 t) (hl 0 3) - UN hl (rwD hl cd) (hl 4 t) (n + 1)) + (hl 7 t))))), (upd (upd Fx 57 (nI ((WSm hl (rwD hl cd) (hl 0 3) - WSm hl (rwD hl cd) (n + 1)) + (hl 6 t)))) 58 (nI ((MSm hl (rwD hl cd) (hl 0 3) - MSm hl (rwD hl cd) (n + 1)) + (effS hl n t))))), _) ⟨hM5, (hax.st (by decide)).st (by decide), h40, ⟨hfs.1, hfs.2.1, hfs.2.2.1, hfs.2.2.2⟩, fun q => absurd (ok2_p q) hbad⟩ (by rw [ok2_f hbad]; rfl) rfl rfl)
              · have hbad : ¬ okP hl r P (rwD hl cd) (hl 0 3) := bad_can hO hP (by omega) hrt ht4 c115
                refine x_iconst dX12_laysRow_118 ki_0 ?_
                exact x_zret dX12_laysRow_119 rfl (by first | rfl | decide | exact bI_nar _) (xEx_i (((setA Ax 39 (upd (Ax 39) n (nI t))), Fx), _) ⟨hM2, hax.st (by decide), h40, hfs, fun q => absurd (ok2_p q) hbad⟩ (by rw [ok2_f hbad]; rfl) rfl rfl)
theorem Md_laysRow {K : xG} {h y : Nat} {G0 G : xHp} {hl : xHl} {r : xRw} {sc : Nat × Nat × Int32} {A : Nat → Nat → Int32} {F : Nat → Int32} {wa sa : Nat → Int64} {cd : Nat} {P : Nat → Nat} (hM : MW G0 G y hl r sc A F wa sa) (hO : HallOk hl) (hP : ∀ s, s < hl 0 2 → P s < 1000 ∧ r (1 + s) = nI (P s)) (hcd : cd < 10000) : xCall K mX12_laysRow 3 0 0 [.ref y, .int (nI cd)] h G (lyQ G0 h y hl r sc A F wa sa P (rwD hl cd)) := by
  refine x_entry (by decide) (ls := [(0, .ref y), (1, .int (nI cd))]) rfl (Nat.le_of_ble_eq_true rfl) ?_
  obtain ⟨o2, o3, o4, o5, o6, o7, o8, o9⟩ := id hO
  refine x_aload_n dX12_laysRow_0 0 rfl ?_
  refine x_get (v := .ref (y + 1)) dX12_laysRow_1 fX12_9 (hM.1) rfl ?_
  refine x_iconst dX12_laysRow_4 ki_4 ?_
  refine x_ialdN (n := 9) (f := scal hl r sc) dX12_laysRow_5 (hM.c1) (by decide) (by decide) ?_
  refine x_topi (y := nI (hl 0 4)) rfl ?_
  refine x_iconst dX12_laysRow_6 ki_1 ?_
  refine x_iaddN dX12_laysRow_7 ?_
  refine x_istore_n (ls' := [(2, .int (nI ((hl 0 4) + 1))), (0, .ref y), (1, .int (nI cd))]) dX12_laysRow_8 (by decide) rfl ?_
  refine x_iload_n dX12_laysRow_9 2 rfl ?_
  refine x_istore_n (ls' := [(3, .int (nI cd)), (2, .int (nI ((hl 0 4) + 1))), (0, .ref y), (1, .int (nI cd))]) dX12_laysRow_10 (by decide) rfl ?_
  refine x_pc (pc' := 11) rfl ?_
  refine x_iconst dX12_laysRow_11 ki_0 ?_
  refine x_istore (ls' := [(4, .int (nI 0)), (3, .int (nI cd)), (2, .int (nI ((hl 0 4) + 1))), (0, .ref y), (1, .int (nI cd))]) dX12_laysRow_12 (by decide) rfl ?_
  refine x_aload_n dX12_laysRow_14 3 rfl ?_
  refine x_iconst dX12_laysRow_15 ki_0 ?_
  refine x_put (fs' := [.int (F 0), .ref (y + 1), .ref (y + 2), .ref (y + 3), .ref (y + 4), .ref (y + 5), .ref (y + 6), .ref (y + 7), .ref (y + 8), .ref (y + 9), .ref (y + 10), .ref (y + 11), .ref (y + 12), .ref (y + 13), .ref (y + 14), .ref (y + 15), .ref (y + 16), .ref (y + 17), .ref (y + 18), .ref (y + 19), .ref (y + 20), .ref (y + 21), .ref (y + 22), .ref (y + 23), .ref (y + 24), .ref (y + 25), .ref (y + 26), .int (F 27), .int (F 28), .int (F 29), .int (F 30), .int (F 31), .int (F 32), .int (F 33), .int (F 34), .int (F 35), .int (F 36), .ref (y + 27), .ref (y + 28), .ref (y + 29), .ref (y + 30), .ref (y + 31), .ref (y + 32), .ref (y + 33), .ref (y + 34), .ref (y + 35), .ref (y + 36), .ref (y + 37), .ref (y + 38), .int (F 49), .int (F 50), .int (F 51), .int (F 52), .int (F 53), .ref (y + 39), .ref (y + 40), .ref (y + 41), .int (nI 0), .int (F 58), .ref (y + 42), .ref (y + 43), .ref (y + 44), .ref (y + 45), .int (F 63), .int (F 64)]) dX12_laysRow_16 fX12_468 (hM.1) (Nat.le_of_ble_eq_true rfl) rfl rfl rfl ?_
  refine x_geq (G' := xup _ y (modO y (upd F 57 (nI 0)))) rfl ?_
  have hM1 := hM.fld (upd F 57 (nI 0))
  refine x_aload_n dX12_laysRow_19 3 rfl ?_
  refine x_iconst dX12_laysRow_20 ki_0 ?_
  refine x_put (fs' := [.int (F 0), .ref (y + 1), .ref (y + 2), .ref (y + 3), .ref (y + 4), .ref (y + 5), .ref (y + 6), .ref (y + 7), .ref (y + 8), .ref (y + 9), .ref (y + 10), .ref (y + 11), .ref (y + 12), .ref (y + 13), .ref (y + 14), .ref (y + 15), .ref (y + 16), .ref (y + 17), .ref (y + 18), .ref (y + 19), .ref (y + 20), .ref (y + 21), .ref (y + 22), .ref (y + 23), .ref (y + 24), .ref (y + 25), .ref (y + 26), .int (F 27), .int (F 28), .int (F 29), .int (F 30), .int (F 31), .int (F 32), .int (F 33), .int (F 34), .int (F 35), .int (F 36), .ref (y + 27), .ref (y + 28), .ref (y + 29), .ref (y + 30), .ref (y + 31), .ref (y + 32), .ref (y + 33), .ref (y + 34), .ref (y + 35), .ref (y + 36), .ref (y + 37), .ref (y + 38), .int (F 49), .int (F 50), .int (F 51), .int (F 52), .int (F 53), .ref (y + 39), .ref (y + 40), .ref (y + 41), .int (nI 0), .int (nI 0), .ref (y + 42), .ref (y + 43), .ref (y + 44), .ref (y + 45), .int (F 63), .int (F 64)]) dX12_laysRow_21 fX12_471 (hM1.1) (Nat.le_of_ble_eq_true rfl) rfl rfl rfl ?_
  refine x_geq (G' := xup _ y (modO y (upd (upd F 57 (nI 0)) 58 (nI 0)))) rfl ?_
  have hM2 := hM1.fld (upd (upd F 57 (nI 0)) 58 (nI 0))
  refine x_iconst dX12_laysRow_24 ki_0 ?_
  refine x_istore (ls' := [(5, .int (nI 0)), (4, .int (nI 0)), (3, .int (nI cd)), (2, .int (nI ((hl 0 4) + 1))), (0, .ref y), (1, .int (nI cd))]) dX12_laysRow_25 (by decide) rfl ?_
  refine x_pc (pc' := 27) rfl ?_
  refine x_iload dX12_laysRow_27 0 rfl ?_
  refine x_iconst dX12_laysRow_29 ki_4 ?_
  refine x_icmpN_ge (tgt := 47) dX12_laysRow_30 (by decide) (by omega) (by omega) (fun c30 => ?_) (fun c30 => ?_)
  · exact absurd c30 (by decide)
  · refine x_aload_n dX12_laysRow_33 4 rfl ?_
    refine x_get (v := .ref (y + 41)) dX12_laysRow_34 fX12_136 (hM2.1) rfl ?_
    refine x_iload dX12_laysRow_37 0 rfl ?_
    refine x_iconst dX12_laysRow_39 ki_0 ?_
    refine x_iastN (n := 4) (f := A 41) dX12_laysRow_40 (hM2.c41) (by decide) (by decide) ?_
    have hM3 := hM2.a41 (upd (A 41) 0 (nI 0))
    refine x_iinc (v := nI 1) (ls' := [(5, .int (nI 1)), (4, .int (nI 0)), (3, .int (nI cd)), (2, .int (nI ((hl 0 4) + 1))), (0, .ref y), (1, .int (nI cd))]) dX12_laysRow_41 0 rfl (by decide) (by decide) rfl ?_
    refine x_goto (tgt := 27) dX12_laysRow_44 (by decide) ?_
    refine x_pc (pc' := 27) rfl ?_
    refine x_iload dX12_laysRow_27 0 rfl ?_
    refine x_iconst dX12_laysRow_29 ki_4 ?_
    refine x_icmpN_ge (tgt := 47) dX12_laysRow_30 (by decide) (by omega) (by omega) (fun c30 => ?_) (fun c30 => ?_)
    · exact absurd c30 (by decide)
    · refine x_aload_n dX12_laysRow_33 4 rfl ?_
      refine x_get (v := .ref (y + 41)) dX12_laysRow_34 fX12_136 (hM3.1) rfl ?_
      refine x_iload dX12_laysRow_37 0 rfl ?_
      refine x_iconst dX12_laysRow_39 ki_0 ?_
      refine x_iastN (n := 4) (f := (upd (A 41) 0 (nI 0))) dX12_laysRow_40 (hM3.c41) (by decide) (by decide) ?_
      have hM4 := hM3.a41 (upd (upd (A 41) 0 (nI 0)) 1 (nI 0))
      refine x_iinc (v := nI 2) (ls' := [(5, .int (nI 2)), (4, .int (nI 0)), (3, .int (nI cd)), (2, .int (nI ((hl 0 4) + 1))), (0, .ref y), (1, .int (nI cd))]) dX12_laysRow_41 0 rfl (by decide) (by decide) rfl ?_
      refine x_goto (tgt := 27) dX12_laysRow_44 (by decide) ?_
      refine x_pc (pc' := 27) rfl ?_
      refine x_iload dX12_laysRow_27 0 rfl ?_
      refine x_iconst dX12_laysRow_29 ki_4 ?_
      refine x_icmpN_ge (tgt := 47) dX12_laysRow_30 (by decide) (by omega) (by omega) (fun c30 => ?_) (fun c30 => ?_)
      · exact absurd c30 (by decide)
      · refine x_aload_n dX12_laysRow_33 4 rfl ?_
        refine x_get (v := .ref (y + 41)) dX12_laysRow_34 fX12_136 (hM4.1) rfl ?_
        refine x_iload dX12_laysRow_37 0 rfl ?_
        refine x_iconst dX12_laysRow_39 ki_0 ?_
        refine x_iastN (n := 4) (f := (upd (upd (A 41) 0 (nI 0)) 1 (nI 0))) dX12_laysRow_40 (hM4.c41) (by decide) (by decide) ?_
        have hM5 := hM4.a41 (upd (upd (upd (A 41) 0 (nI 0)) 1 (nI 0)) 2 (nI 0))
        refine x_iinc (v := nI 3) (ls' := [(5, .int (nI 3)), (4, .int (nI 0)), (3, .int (nI cd)), (2, .int (nI ((hl 0 4) + 1))), (0, .ref y), (1, .int (nI cd))]) dX12_laysRow_41 0 rfl (by decide) (by decide) rfl ?_
        refine x_goto (tgt := 27) dX12_laysRow_44 (by decide) ?_
        refine x_pc (pc' := 27) rfl ?_
        refine x_iload dX12_laysRow_27 0 rfl ?_
        refine x_iconst dX12_laysRow_29 ki_4 ?_
        refine x_icmpN_ge (tgt := 47) dX12_laysRow_30 (by decide) (by omega) (by omega) (fun c30 => ?_) (fun c30 => ?_)
        · exact absurd c30 (by decide)
        · refine x_aload_n dX12_laysRow_33 4 rfl ?_
          refine x_get (v := .ref (y + 41)) dX12_laysRow_34 fX12_136 (hM5.1) rfl ?_
          refine x_iload dX12_laysRow_37 0 rfl ?_
          refine x_iconst dX12_laysRow_39 ki_0 ?_
          refine x_iastN (n := 4) (f := (upd (upd (upd (A 41) 0 (nI 0)) 1 (nI 0)) 2 (nI 0))) dX12_laysRow_40 (hM5.c41) (by decide) (by decide) ?_
          have hM6 := hM5.a41 (upd (upd (upd (upd (A 41) 0 (nI 0)) 1 (nI 0)) 2 (nI 0)) 3 (nI 0))
          refine x_iinc (v := nI 4) (ls' := [(5, .int (nI 4)), (4, .int (nI 0)), (3, .int (nI cd)), (2, .int (nI ((hl 0 4) + 1))), (0, .ref y), (1, .int (nI cd))]) dX12_laysRow_41 0 rfl (by decide) (by decide) rfl ?_
          refine x_goto (tgt := 27) dX12_laysRow_44 (by decide) ?_
          refine x_pc (pc' := 27) rfl ?_
          refine x_iload dX12_laysRow_27 0 rfl ?_
          refine x_iconst dX12_laysRow_29 ki_4 ?_
          refine x_icmpN_ge (tgt := 47) dX12_laysRow_30 (by decide) (by omega) (by omega) (fun c30 => ?_) (fun c30 => ?_)
          · refine x_aload_n dX12_laysRow_47 4 rfl ?_
            refine x_get (v := .ref (y + 1)) dX12_laysRow_48 fX12_9 (hM6.1) rfl ?_
            refine x_iconst dX12_laysRow_51 ki_3 ?_
            refine x_ialdN (n := 9) (f := scal hl r sc) dX12_laysRow_52 (hM6.c1) (by decide) (by decide) ?_
            refine x_topi (y := nI (hl 0 3)) rfl ?_
            refine x_iconst dX12_laysRow_53 ki_1 ?_
            refine x_isub dX12_laysRow_54 ?_
            refine x_topi (y := nI (hl 0 3) + (-1)) (sub_1 _) ?_
            refine x_istore (ls' := [(5, .int (nI (hl 0 3) + (-1))), (4, .int (nI 0)), (3, .int (nI cd)), (2, .int (nI ((hl 0 4) + 1))), (0, .ref y), (1, .int (nI cd))]) dX12_laysRow_55 (by decide) rfl ?_
            exact Md_lays_loop hO hP hcd (hl 0 3) cd 0 (setA (setA (setA (setA A 41 (upd (A 41) 0 (nI 0))) 41 (upd (upd (A 41) 0 (nI 0)) 1 (nI 0))) 41 (upd (upd (upd (A 41) 0 (nI 0)) 1 (nI 0)) 2 (nI 0))) 41 (upd (upd (upd (upd (A 41) 0 (nI 0)) 1 (nI 0)) 2 (nI 0)) 3 (nI 0))) (upd (upd F 57 (nI 0)) 58 (nI 0)) _ (Nat.le_refl _) (by rw [Nat.sub_self, Nat.pow_zero, Nat.div_one]) okT_M tk_M (fun i h1 h2 => absurd h1 (by omega)) (us_M (fun s hs => clr4 (by omega))) (by rw [Nat.sub_self]; rfl) (by rw [Nat.sub_self]; rfl) ((((AS.rf.st (by decide)).st (by decide)).st (by decide)).st (by decide)) rfl ⟨rfl, rfl, rfl, rfl⟩ hM6
          · exact absurd c30 (by decide)
theorem in_m5 (w : Int32) : decide ((0 : Int64) ≤ w.toInt64 ∧ w.toInt64 ≤ (5 : Int64)) = inR w 6 := by
  unfold inR
  apply decide_eq_decide.mpr
  have e2 : w.toInt64 ≤ (5 : Int64) ↔ w.toInt ≤ 5 := by rw [Int64.le_iff_toInt_le, Int32.toInt_toInt64]; rfl
  rw [i64_0, e2]
  omega
theorem Md_match_n {K : xG} {h y : Nat} {G0 G : xHp} {hl : xHl} {r : xRw} {sc : Nat × Nat × Int32} {A : Nat → Nat → Int32} {F : Nat → Int32} {wa sa : Nat → Int64} {v : Int32} (hM : MW G0 G y hl r sc A F wa sa) (hO : HallOk hl) (hn : ¬ (0 < hl 0 0 ∧ inR v 6 = true)) : xCall K mX12_match 4 0 0 [.ref y, .int v] h G (xRet (some (.int (-3))) h G) := by
  refine x_entry (by decide) (ls := [(0, .ref y), (1, .int v)]) rfl (Nat.le_of_ble_eq_true rfl) ?_
  have hB := hM.hB
  obtain ⟨o2, o3, o4, o5, o6, o7, o8, o9⟩ := id hO
  refine x_aload_n dX12_match_0 0 rfl ?_
  refine x_cV (N := mX12_isHall) (d' := 0) (mc := 0) (ms := 0) (cb := 0) (sb := 0) (As := []) (st := []) dX12_match_1 mX12_isHall_v lX12_425 rfl rfl (hM.1) rfl (by decide) (Nat.le_of_ble_eq_true rfl) (Md_isHall hM) rfl (st1 := [.int (bI (decide (0 < hl 0 0)))]) rfl ?_
  refine x_ifB_eq (tgt := 19) dX12_match_4 (by decide) (fun c4 => ?_) (fun c4 => ?_)
  · refine x_bipush dX12_match_19 kb_m3 ?_
    exact x_iret dX12_match_21 rfl (xRet_i)
  · refine x_iload_n dX12_match_7 1 rfl ?_
    refine x_i2l dX12_match_8 ?_
    refine x_lconst (v := 0) dX12_match_9 rfl ?_
    refine x_ldc2 dX12_match_10 cX12_477 ?_
    refine x_cS (N := mX12_in) (d' := 0) (mc := 0) (ms := 0) (cb := 0) (sb := 0) (As := [.long v.toInt64, .long 0, .long (5 : Int64)]) (st := []) dX12_match_13 mX12_in_s lX12_155 rfl (by decide) (Nat.le_of_ble_eq_true rfl) (Md_in) rfl (st1 := [.int (bI (decide (0 ≤ v.toInt64 ∧ v.toInt64 ≤ (5 : Int64))))]) rfl ?_
    refine x_ifB_ne (tgt := 22) dX12_match_16 (by decide) (fun c16 => ?_) (fun c16 => ?_)
    · exact absurd ⟨of_decide_eq_true c4, (in_m5 v).symm.trans c16⟩ hn
    · refine x_pc (pc' := 19) rfl ?_
      refine x_bipush dX12_match_19 kb_m3 ?_
      exact x_iret dX12_match_21 rfl (xRet_i)
theorem Md_match_loop {K : xG} {h y : Nat} {G0 : xHp} {hl : xHl} {r : xRw} {sc : Nat × Nat × Int32} {A : Nat → Nat → Int32} {F : Nat → Int32} {wa sa : Nat → Int64} {P : Nat → Nat} {k Nn : Nat} {b : Nat → Int32} (hO : HallOk hl) (hP : ∀ s, s < hl 0 2 → P s < 1000 ∧ r (1 + s) = nI (P s)) (hk : k < 6) (hNn : Nn = (hl 0 4 + 1) ^ hl 0 3) (hN4 : Nn ≤ 4096) : ∀ (i c : Nat) (Ax : Nat → Nat → Int32) (Fx : Nat → Int32) (G1 : xHp), c + i = Nn → AS A Ax → FS F Fx → (∀ j, j < hl 0 3 → Ax 40 j = (mtB hl r P b c).2.2 j) → MW G0 G1 y hl r sc Ax Fx wa sa → xV K mX12_match 4 0 0 h G1 61 [(5, .int (nI c)), (4, .int ((mtB hl r P b c).2.1)), (3, .int ((mtB hl r P b c).1)), (2, .int (nI Nn)), (0, .ref y), (1, .int (nI k))] [] (mdK G0 h y (some (.int (if k = 0 then (mtR hl r).1 else if k = 1 then (mtR hl r).2.1 else if k - 2 < hl 0 3 ∧ r (5 + (k - 2)) = -1 then (mtR hl r).2.2 (k - 2) else -2))) hl r sc A F) := by
  obtain ⟨o2, o3, o4, o5, o6, o7, o8, o9⟩ := id hO
  have hb : BR (hl 0 3) (mtR hl r) (mtB hl r P b Nn) := by rw [hNn]; exact mtB_e hO hP
  intro i
  induction i with
  | zero =>
    intro c Ax Fx G1 hi hax hfs hrw hN
    have hi0 : c = Nn := by omega
    subst hi0
    refine x_iload dX12_match_61 0 rfl ?_
    refine x_iload_n dX12_match_63 3 rfl ?_
    refine x_icmpN_ge (tgt := 129) dX12_match_64 (by decide) (by omega) (by omega) (fun c64 => ?_) (fun c64 => ?_)
    · refine x_iload_n dX12_match_129 5 rfl ?_
      refine x_iconst dX12_match_130 ki_2 ?_
      refine x_icmpN_ge (tgt := 145) dX12_match_131 (by decide) (by omega) (by omega) (fun c131 => ?_) (fun c131 => ?_)
      · refine x_aload_n dX12_match_145 4 rfl ?_
        refine x_iload_n dX12_match_146 5 rfl ?_
        refine x_iconst dX12_match_147 ki_2 ?_
        refine x_pc (pc' := 148) rfl ?_
        refine x_isubN dX12_match_148 (by omega) ?_
        refine x_cV (N := mX12_isFree) (d' := 2) (mc := 0) (ms := 0) (cb := 0) (sb := 0) (As := [.int (nI (k - 2))]) (st := []) dX12_match_149 mX12_isFree_v lX12_431 rfl rfl (hN.1) rfl (by decide) (Nat.le_of_ble_eq_true rfl) (Md_isFree hN o3) rfl (st1 := [.int (bI (inR (nI (k - 2)) (hl 0 3) && decide (r (5 + thN (nI (k - 2))) = -1)))]) rfl ?_
        refine x_ifB_eq (tgt := 166) dX12_match_152 (by decide) (fun c152 => ?_) (fun c152 => ?_)
        · refine x_bipush dX12_match_166 kb_m2 ?_
          exact x_iret dX12_match_168 rfl (xEx_i ((hl, Ax, Fx), (wa, sa), G1) ⟨hN, LX.rf hN.hB, hax, hfs⟩ (by rw [if_neg (show ¬ k = 0 by omega), if_neg (show ¬ k = 1 by omega), if_neg (fun q => by rw [inR_nI (by omega), thN_nI (by omega), decide_eq_true q.1, decide_eq_true q.2] at c152; exact absurd c152 (by decide))]) rfl rfl)
        · refine x_aload_n dX12_match_155 4 rfl ?_
          refine x_get (v := .ref (y + 40)) dX12_match_156 fX12_133 (hN.1) rfl ?_
          refine x_iload_n dX12_match_159 5 rfl ?_
          refine x_iconst dX12_match_160 ki_2 ?_
          refine x_isubN dX12_match_161 (by omega) ?_
          refine x_ialdN (n := 4) (f := Ax 40) dX12_match_162 (hN.c40) (by omega) (by decide) ?_
          refine x_goto (tgt := 168) dX12_match_163 (by decide) ?_
          refine x_pc (pc' := 168) rfl ?_
          exact x_iret dX12_match_168 rfl (xEx_i ((hl, Ax, Fx), (wa, sa), G1) ⟨hN, LX.rf hN.hB, hax, hfs⟩ (by rw [inR_nI (by omega), thN_nI (by omega), Bool.and_eq_true] at c152; rw [if_neg (show ¬ k = 0 by omega), if_neg (show ¬ k = 1 by omega), if_pos ⟨of_decide_eq_true c152.1, of_decide_eq_true c152.2⟩, hb.2.2 _ (of_decide_eq_true c152.1), hrw _ (of_decide_eq_true c152.1)]) rfl rfl)
      · refine x_iload_n dX12_match_134 5 rfl ?_
        refine x_ifN_ne (tgt := 142) dX12_match_135 (by decide) (by omega) (fun c135 => ?_) (fun c135 => ?_)
        · refine x_iload dX12_match_142 1 rfl ?_
          refine x_pc (pc' := 144) rfl ?_
          exact x_iret dX12_match_144 rfl (xEx_i ((hl, Ax, Fx), (wa, sa), G1) ⟨hN, LX.rf hN.hB, hax, hfs⟩ (by rw [if_neg c135, if_pos (show k = 1 by omega), hb.2.1]) rfl rfl)
        · refine x_iload_n dX12_match_138 2 rfl ?_
          refine x_pc (pc' := 139) rfl ?_
          refine x_goto (tgt := 144) dX12_match_139 (by decide) ?_
          exact x_iret dX12_match_144 rfl (xEx_i ((hl, Ax, Fx), (wa, sa), G1) ⟨hN, LX.rf hN.hB, hax, hfs⟩ (by rw [if_pos c135, hb.1]) rfl rfl)
    · exact absurd c64 (by omega)
  | succ i ih =>
    intro c Ax Fx G1 hi hax hfs hrw hN
    refine x_iload dX12_match_61 0 rfl ?_
    refine x_iload_n dX12_match_63 3 rfl ?_
    refine x_icmpN_ge (tgt := 129) dX12_match_64 (by decide) (by omega) (by omega) (fun c64 => ?_) (fun c64 => ?_)
    · exact absurd c64 (by omega)
    · refine x_aload_n dX12_match_67 4 rfl ?_
      refine x_iload dX12_match_68 0 rfl ?_
      refine x_cVe (N := mX12_laysRow) (d' := 3) (mc := 0) (ms := 0) (cb := 0) (sb := 0) (As := [.int (nI c)]) (st := []) dX12_match_70 mX12_laysRow_v lX12_479 rfl rfl (hN.1) rfl (by decide) (Nat.le_of_ble_eq_true rfl) (Md_laysRow hN hO hP (by omega)) rfl (sf := fun e2 => [.int (bI (okB2 hl r P (rwD hl c)))]) (fun _ => rfl) (fun e2 hq2 => ?_)
      obtain ⟨⟨A2, F2⟩, G2⟩ := e2
      obtain ⟨hN2, hx2, h402, hf2, hr2⟩ := hq2
      refine x_ifB_eq (tgt := 123) dX12_match_73 (by decide) (fun c73 => ?_) (fun c73 => ?_)
      · refine x_iinc (v := nI (c + 1)) (ls' := [(5, .int (nI (c + 1))), (4, .int ((mtB hl r P b c).2.1)), (3, .int ((mtB hl r P b c).1)), (2, .int (nI Nn)), (0, .ref y), (1, .int (nI k))]) dX12_match_123 0 rfl (nIs _) (by decide) rfl ?_
        refine x_goto (tgt := 61) dX12_match_126 (by decide) ?_
        have e1 : mtB hl r P b (c + 1) = mtB hl r P b c := mtB_n c73
        have hih := ih (c + 1) A2 F2 G2 (by omega) (hax.tr hx2) (hfs.tr hf2) (by rw [show A2 40 = Ax 40 from h402, e1]; exact hrw) hN2
        rw [e1] at hih
        exact hih
      · refine x_aload_n dX12_match_76 4 rfl ?_
        refine x_get (v := .int (F2 57)) dX12_match_77 fX12_468 (hN2.1) rfl ?_
        refine x_topi (y := nI (WSm hl (rwD hl c) (hl 0 3))) ((hr2 c73).2.1) ?_
        refine x_pc (pc' := 80) rfl ?_
        refine x_iload_n dX12_match_80 2 rfl ?_
        refine x_icmp_gt (x := nI (WSm hl (rwD hl c) (hl 0 3))) (y := (mtB hl r P b c).1) (tgt := 101) dX12_match_81 (by decide) (fun c81 => ?_) (fun c81 => ?_)
        · refine x_aload_n dX12_match_101 4 rfl ?_
          refine x_get (v := .int (F2 57)) dX12_match_102 fX12_468 (hN2.1) rfl ?_
          refine x_topi (y := nI (WSm hl (rwD hl c) (hl 0 3))) ((hr2 c73).2.1) ?_
          refine x_istore_n (ls' := [(3, .int (nI (WSm hl (rwD hl c) (hl 0 3)))), (5, .int (nI c)), (4, .int ((mtB hl r P b c).2.1)), (2, .int (nI Nn)), (0, .ref y), (1, .int (nI k))]) dX12_match_105 (by decide) rfl ?_
          refine x_aload_n dX12_match_106 4 rfl ?_
          refine x_get (v := .int (F2 58)) dX12_match_107 fX12_471 (hN2.1) rfl ?_
          refine x_topi (y := nI (MSm hl (rwD hl c) (hl 0 3))) ((hr2 c73).2.2) ?_
          refine x_istore (ls' := [(4, .int (nI (MSm hl (rwD hl c) (hl 0 3)))), (3, .int (nI (WSm hl (rwD hl c) (hl 0 3)))), (5, .int (nI c)), (2, .int (nI Nn)), (0, .ref y), (1, .int (nI k))]) dX12_match_110 (by decide) rfl ?_
          refine x_aload_n dX12_match_112 4 rfl ?_
          refine x_get (v := .ref (y + 39)) dX12_match_113 fX12_130 (hN2.1) rfl ?_
          refine x_pc (pc' := 116) rfl ?_
          refine x_aload_n dX12_match_116 4 rfl ?_
          refine x_get (v := .ref (y + 40)) dX12_match_117 fX12_133 (hN2.1) rfl ?_
          refine x_cS (N := mX12_copies) (d' := 0) (mc := 0) (ms := 0) (cb := 0) (sb := 0) (As := [.ref (y + 39), .ref (y + 40)]) (st := []) dX12_match_120 mX12_copies_s lX12_317 rfl (by decide) (Nat.le_of_ble_eq_true rfl) (Md_copies (n := 4) (f := A2 39) (g := A2 40) (hN2.c39) (hN2.c40) (by omega) (by decide)) rfl (st1 := []) rfl ?_
          have hN3 := hN2.a40 (cpF (A2 39) (A2 40) 4)
          refine x_iinc (v := nI (c + 1)) (ls' := [(5, .int (nI (c + 1))), (4, .int (nI (MSm hl (rwD hl c) (hl 0 3)))), (3, .int (nI (WSm hl (rwD hl c) (hl 0 3)))), (2, .int (nI Nn)), (0, .ref y), (1, .int (nI k))]) dX12_match_123 2 rfl (nIs _) (by decide) rfl ?_
          refine x_goto (tgt := 61) dX12_match_126 (by decide) ?_
          have e1 := mtB_y (b := b) c73 (Or.inl c81)
          have hih := ih (c + 1) (setA A2 40 (cpF (A2 39) (A2 40) 4)) F2 _ (by omega) ((hax.tr hx2).st (by decide)) (hfs.tr hf2) (by rw [e1]; exact fun j hj => (if_pos (show j < 4 by omega)).trans ((hr2 c73).1 j hj)) hN3
          rw [e1] at hih
          exact hih
        · refine x_aload_n dX12_match_84 4 rfl ?_
          refine x_get (v := .int (F2 57)) dX12_match_85 fX12_468 (hN2.1) rfl ?_
          refine x_topi (y := nI (WSm hl (rwD hl c) (hl 0 3))) ((hr2 c73).2.1) ?_
          refine x_iload_n dX12_match_88 2 rfl ?_
          refine x_icmp_ne (x := nI (WSm hl (rwD hl c) (hl 0 3))) (y := (mtB hl r P b c).1) (tgt := 123) dX12_match_89 (by decide) (fun c89 => ?_) (fun c89 => ?_)
          · refine x_iinc (v := nI (c + 1)) (ls' := [(5, .int (nI (c + 1))), (4, .int ((mtB hl r P b c).2.1)), (3, .int ((mtB hl r P b c).1)), (2, .int (nI Nn)), (0, .ref y), (1, .int (nI k))]) dX12_match_123 0 rfl (nIs _) (by decide) rfl ?_
            refine x_goto (tgt := 61) dX12_match_126 (by decide) ?_
            have e1 : mtB hl r P b (c + 1) = mtB hl r P b c := mtB_k c73 (fun q => q.elim c81 (fun z => c89 z.1))
            have hih := ih (c + 1) A2 F2 G2 (by omega) (hax.tr hx2) (hfs.tr hf2) (by rw [show A2 40 = Ax 40 from h402, e1]; exact hrw) hN2
            rw [e1] at hih
            exact hih
          · refine x_aload_n dX12_match_92 4 rfl ?_
            refine x_get (v := .int (F2 58)) dX12_match_93 fX12_471 (hN2.1) rfl ?_
            refine x_topi (y := nI (MSm hl (rwD hl c) (hl 0 3))) ((hr2 c73).2.2) ?_
            refine x_iload dX12_match_96 1 rfl ?_
            refine x_icmp_ge (x := nI (MSm hl (rwD hl c) (hl 0 3))) (y := (mtB hl r P b c).2.1) (tgt := 123) dX12_match_98 (by decide) (fun c98 => ?_) (fun c98 => ?_)
            · refine x_pc (pc' := 123) rfl ?_
              refine x_iinc (v := nI (c + 1)) (ls' := [(5, .int (nI (c + 1))), (4, .int ((mtB hl r P b c).2.1)), (3, .int ((mtB hl r P b c).1)), (2, .int (nI Nn)), (0, .ref y), (1, .int (nI k))]) dX12_match_123 0 rfl (nIs _) (by decide) rfl ?_
              refine x_goto (tgt := 61) dX12_match_126 (by decide) ?_
              have e1 : mtB hl r P b (c + 1) = mtB hl r P b c := mtB_k c73 (fun q => q.elim c81 (fun z => absurd z.2 (Int32.not_lt.mpr c98)))
              have hih := ih (c + 1) A2 F2 G2 (by omega) (hax.tr hx2) (hfs.tr hf2) (by rw [show A2 40 = Ax 40 from h402, e1]; exact hrw) hN2
              rw [e1] at hih
              exact hih
            · refine x_pc (pc' := 101) rfl ?_
              refine x_aload_n dX12_match_101 4 rfl ?_
              refine x_get (v := .int (F2 57)) dX12_match_102 fX12_468 (hN2.1) rfl ?_
              refine x_topi (y := nI (WSm hl (rwD hl c) (hl 0 3))) ((hr2 c73).2.1) ?_
              refine x_istore_n (ls' := [(3, .int (nI (WSm hl (rwD hl c) (hl 0 3)))), (5, .int (nI c)), (4, .int ((mtB hl r P b c).2.1)), (2, .int (nI Nn)), (0, .ref y), (1, .int (nI k))]) dX12_match_105 (by decide) rfl ?_
              refine x_aload_n dX12_match_106 4 rfl ?_
              refine x_get (v := .int (F2 58)) dX12_match_107 fX12_471 (hN2.1) rfl ?_
              refine x_topi (y := nI (MSm hl (rwD hl c) (hl 0 3))) ((hr2 c73).2.2) ?_
              refine x_istore (ls' := [(4, .int (nI (MSm hl (rwD hl c) (hl 0 3)))), (3, .int (nI (WSm hl (rwD hl c) (hl 0 3)))), (5, .int (nI c)), (2, .int (nI Nn)), (0, .ref y), (1, .int (nI k))]) dX12_match_110 (by decide) rfl ?_
              refine x_aload_n dX12_match_112 4 rfl ?_
              refine x_get (v := .ref (y + 39)) dX12_match_113 fX12_130 (hN2.1) rfl ?_
              refine x_aload_n dX12_match_116 4 rfl ?_
              refine x_get (v := .ref (y + 40)) dX12_match_117 fX12_133 (hN2.1) rfl ?_
              refine x_pc (pc' := 120) rfl ?_
              refine x_cS (N := mX12_copies) (d' := 0) (mc := 0) (ms := 0) (cb := 0) (sb := 0) (As := [.ref (y + 39), .ref (y + 40)]) (st := []) dX12_match_120 mX12_copies_s lX12_317 rfl (by decide) (Nat.le_of_ble_eq_true rfl) (Md_copies (n := 4) (f := A2 39) (g := A2 40) (hN2.c39) (hN2.c40) (by omega) (by decide)) rfl (st1 := []) rfl ?_
              have hN3 := hN2.a40 (cpF (A2 39) (A2 40) 4)
              refine x_iinc (v := nI (c + 1)) (ls' := [(5, .int (nI (c + 1))), (4, .int (nI (MSm hl (rwD hl c) (hl 0 3)))), (3, .int (nI (WSm hl (rwD hl c) (hl 0 3)))), (2, .int (nI Nn)), (0, .ref y), (1, .int (nI k))]) dX12_match_123 2 rfl (nIs _) (by decide) rfl ?_
              refine x_goto (tgt := 61) dX12_match_126 (by decide) ?_
              have e1 := mtB_y (b := b) c73 (Or.inr ⟨c89, Int32.not_le.mp c98⟩)
              have hih := ih (c + 1) (setA A2 40 (cpF (A2 39) (A2 40) 4)) F2 _ (by omega) ((hax.tr hx2).st (by decide)) (hfs.tr hf2) (by rw [e1]; exact fun j hj => (if_pos (show j < 4 by omega)).trans ((hr2 c73).1 j hj)) hN3
              rw [e1] at hih
              exact hih
theorem Md_match_codes {K : xG} {h y : Nat} {G0 G : xHp} {hl : xHl} {r : xRw} {sc : Nat × Nat × Int32} {A : Nat → Nat → Int32} {F : Nat → Int32} {wa sa : Nat → Int64} {k : Nat} {P : Nat → Nat} (hM : MW G0 G y hl r sc A F wa sa) (hO : HallOk hl) (hP : ∀ s, s < hl 0 2 → P s < 1000 ∧ r (1 + s) = nI (P s)) (hk : k < 6) : ∀ (i q : Nat), q + i = hl 0 3 → xV K mX12_match 4 0 0 h G 26 [(3, .int (nI q)), (2, .int (nI ((hl 0 4 + 1) ^ q))), (0, .ref y), (1, .int (nI k))] [] (mdK G0 h y (some (.int (if k = 0 then (mtR hl r).1 else if k = 1 then (mtR hl r).2.1 else if k - 2 < hl 0 3 ∧ r (5 + (k - 2)) = -1 then (mtR hl r).2.2 (k - 2) else -2))) hl r sc A F) := by
  obtain ⟨o2, o3, o4, o5, o6, o7, o8, o9⟩ := id hO
  intro i
  induction i with
  | zero =>
    intro q hi
    have hi0 : q = hl 0 3 := by omega
    subst hi0
    refine x_iload_n dX12_match_26 0 rfl ?_
    refine x_aload_n dX12_match_27 2 rfl ?_
    refine x_get (v := .ref (y + 1)) dX12_match_28 fX12_9 (hM.1) rfl ?_
    refine x_iconst dX12_match_31 ki_3 ?_
    refine x_ialdN (n := 9) (f := scal hl r sc) dX12_match_32 (hM.c1) (by decide) (by decide) ?_
    refine x_topi (y := nI (hl 0 3)) rfl ?_
    refine x_icmpN_ge (tgt := 53) dX12_match_33 (by decide) (by omega) (by omega) (fun c33 => ?_) (fun c33 => ?_)
    · refine x_iconst dX12_match_53 ki_m1 ?_
      refine x_istore_n (ls' := [(3, .int (-1)), (2, .int (nI ((hl 0 4 + 1) ^ (hl 0 3)))), (0, .ref y), (1, .int (nI k))]) dX12_match_54 (by decide) rfl ?_
      refine x_iconst dX12_match_55 ki_0 ?_
      refine x_pc (pc' := 56) rfl ?_
      refine x_istore (ls' := [(4, .int (nI 0)), (3, .int (-1)), (2, .int (nI ((hl 0 4 + 1) ^ (hl 0 3)))), (0, .ref y), (1, .int (nI k))]) dX12_match_56 (by decide) rfl ?_
      refine x_iconst dX12_match_58 ki_0 ?_
      refine x_istore (ls' := [(5, .int (nI 0)), (4, .int (nI 0)), (3, .int (-1)), (2, .int (nI ((hl 0 4 + 1) ^ (hl 0 3)))), (0, .ref y), (1, .int (nI k))]) dX12_match_59 (by decide) rfl ?_
      exact Md_match_loop (b := A 40) hO hP hk rfl (pow_le4 o4 o3) _ 0 A F G (Nat.zero_add _) AS.rf FS.rf (fun j _ => rfl) hM
    · exact absurd c33 (by omega)
  | succ i ih =>
    intro q hi
    refine x_iload_n dX12_match_26 0 rfl ?_
    refine x_aload_n dX12_match_27 2 rfl ?_
    refine x_get (v := .ref (y + 1)) dX12_match_28 fX12_9 (hM.1) rfl ?_
    refine x_iconst dX12_match_31 ki_3 ?_
    refine x_ialdN (n := 9) (f := scal hl r sc) dX12_match_32 (hM.c1) (by decide) (by decide) ?_
    refine x_topi (y := nI (hl 0 3)) rfl ?_
    refine x_icmpN_ge (tgt := 53) dX12_match_33 (by decide) (by omega) (by omega) (fun c33 => ?_) (fun c33 => ?_)
    · exact absurd c33 (by omega)
    · refine x_iload_n dX12_match_36 1 rfl ?_
      refine x_aload_n dX12_match_37 2 rfl ?_
      refine x_get (v := .ref (y + 1)) dX12_match_38 fX12_9 (hM.1) rfl ?_
      refine x_pc (pc' := 41) rfl ?_
      refine x_iconst dX12_match_41 ki_4 ?_
      refine x_ialdN (n := 9) (f := scal hl r sc) dX12_match_42 (hM.c1) (by decide) (by decide) ?_
      refine x_topi (y := nI (hl 0 4)) rfl ?_
      refine x_iconst dX12_match_43 ki_1 ?_
      refine x_iaddN dX12_match_44 ?_
      refine x_imulN dX12_match_45 ?_
      refine x_istore_n (ls' := [(2, .int (nI (((hl 0 4 + 1) ^ q) * ((hl 0 4) + 1)))), (3, .int (nI q)), (0, .ref y), (1, .int (nI k))]) dX12_match_46 (by decide) rfl ?_
      refine x_iinc (v := nI (q + 1)) (ls' := [(3, .int (nI (q + 1))), (2, .int (nI (((hl 0 4 + 1) ^ q) * ((hl 0 4) + 1)))), (0, .ref y), (1, .int (nI k))]) dX12_match_47 1 rfl (nIs _) (by decide) rfl ?_
      refine x_goto (tgt := 26) dX12_match_50 (by decide) ?_
      have hih := ih (q + 1) (by omega)
      rw [Nat.pow_succ] at hih
      exact hih
theorem Md_match_y {K : xG} {h y : Nat} {G0 G : xHp} {hl : xHl} {r : xRw} {sc : Nat × Nat × Int32} {A : Nat → Nat → Int32} {F : Nat → Int32} {wa sa : Nat → Int64} {k : Nat} {P : Nat → Nat} (hM : MW G0 G y hl r sc A F wa sa) (hO : HallOk hl) (hP : ∀ s, s < hl 0 2 → P s < 1000 ∧ r (1 + s) = nI (P s)) (h1 : 0 < hl 0 0) (hk : k < 6) : xCall K mX12_match 4 0 0 [.ref y, .int (nI k)] h G (mdK G0 h y (some (.int (if k = 0 then (mtR hl r).1 else if k = 1 then (mtR hl r).2.1 else if k - 2 < hl 0 3 ∧ r (5 + (k - 2)) = -1 then (mtR hl r).2.2 (k - 2) else -2))) hl r sc A F) := by
  refine x_entry (by decide) (ls := [(0, .ref y), (1, .int (nI k))]) rfl (Nat.le_of_ble_eq_true rfl) ?_
  have hB := hM.hB
  obtain ⟨o2, o3, o4, o5, o6, o7, o8, o9⟩ := id hO
  refine x_aload_n dX12_match_0 0 rfl ?_
  refine x_cV (N := mX12_isHall) (d' := 0) (mc := 0) (ms := 0) (cb := 0) (sb := 0) (As := []) (st := []) dX12_match_1 mX12_isHall_v lX12_425 rfl rfl (hM.1) rfl (by decide) (Nat.le_of_ble_eq_true rfl) (Md_isHall hM) rfl (st1 := [.int (bI (decide (0 < hl 0 0)))]) rfl ?_
  refine x_ifB_eq (tgt := 19) dX12_match_4 (by decide) (fun c4 => ?_) (fun c4 => ?_)
  · exact absurd c4 (by rw [decide_eq_true h1]; decide)
  · refine x_iload_n dX12_match_7 1 rfl ?_
    refine x_i2l dX12_match_8 ?_
    refine x_lconst (v := 0) dX12_match_9 rfl ?_
    refine x_ldc2 dX12_match_10 cX12_477 ?_
    refine x_cS (N := mX12_in) (d' := 0) (mc := 0) (ms := 0) (cb := 0) (sb := 0) (As := [.long ((nI k).toInt64), .long 0, .long (5 : Int64)]) (st := []) dX12_match_13 mX12_in_s lX12_155 rfl (by decide) (Nat.le_of_ble_eq_true rfl) (Md_in) rfl (st1 := [.int (bI (decide (0 ≤ (nI k).toInt64 ∧ (nI k).toInt64 ≤ (5 : Int64))))]) rfl ?_
    refine x_ifB_ne (tgt := 22) dX12_match_16 (by decide) (fun c16 => ?_) (fun c16 => ?_)
    · refine x_pc (pc' := 22) rfl ?_
      refine x_iconst dX12_match_22 ki_1 ?_
      refine x_istore_n (ls' := [(2, .int (nI 1)), (0, .ref y), (1, .int (nI k))]) dX12_match_23 (by decide) rfl ?_
      refine x_iconst dX12_match_24 ki_0 ?_
      refine x_istore_n (ls' := [(3, .int (nI 0)), (2, .int (nI 1)), (0, .ref y), (1, .int (nI k))]) dX12_match_25 (by decide) rfl ?_
      refine x_leq (ls' := [(3, .int (nI 0)), (2, .int (nI ((hl 0 4 + 1) ^ 0))), (0, .ref y), (1, .int (nI k))]) rfl ?_
      exact Md_match_codes hM hO hP hk (hl 0 3) 0 (Nat.zero_add _)
    · exact absurd c16 (by rw [in_m5, inR_nI (by omega), decide_eq_true hk]; decide)
