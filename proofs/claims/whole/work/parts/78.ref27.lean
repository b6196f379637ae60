theorem Md_entry {K : xG} {h y : Nat} {G0 G : xHp} {hl : xHl} {r : xRw} {sc : Nat × Nat × Int32} {A : Nat → Nat → Int32} {F : Nat → Int32} {wa sa : Nat → Int64} {tn p f sl en de co op : Nat} {a b : Nat} (hM : MW G0 G y hl r sc A (pF F tn p f sl en de co op) wa sa) (hs : sl < 6) (hf9 : f < 1000000) (he : f = 0 → en < 300) : xCall K mX12_entry 0 0 0 [.ref y, .int (nI a), .int (nI b)] h G (mdQ G0 h y none hl r sc (entA A f sl en a b) (pF F tn p f sl (entN f en) de co op) wa sa) := by
  by_cases e0 : f = 0
  · subst e0
    rw [show entA A 0 sl en a b = _ from if_pos rfl, show entN 0 en = en + 1 from if_pos rfl]
    exact Md_entry0 (f := 0) hM hs (he rfl)
  · rw [show entA A f sl en a b = A from if_neg e0, show entN f en = en from if_neg e0]
    refine x_callpost (fun v h' G' hq => ?_) (Md_entry1 hM (by omega) hf9)
    obtain ⟨e1, e2, e3⟩ := hq
    subst e1 e2 e3
    exact xEx_i G' hM rfl rfl rfl
theorem Md_isCounted {K : xG} {h y : Nat} {G0 G : xHp} {hl : xHl} {r : xRw} {sc : Nat × Nat × Int32} {A : Nat → Nat → Int32} {F : Nat → Int32} {wa sa : Nat → Int64} {tn p f sl en de co op : Nat} {b : Nat} (hM : MW G0 G y hl r sc A (pF F tn p f sl en de co op) wa sa) (hf9 : f < 1000000) (hc9 : co < 1000) : xCall K mX12_isCounted 1 0 0 [.ref y, .int (nI b)] h G (mdQ G0 h y none hl r sc A (pF F tn p (cfF f co b) sl en de (co + 1) op) wa sa) := by
  by_cases e0 : co = 60
  · subst e0
    rw [show cfF f 60 b = flt f 3 b from if_pos rfl]
    exact Md_counted_y (co := 60) hM hf9
  · rw [show cfF f co b = f from if_neg e0]
    exact Md_counted_n hM e0 hc9
theorem Md_wordOf {K : xG} {h k : Nat} {G : xHp} (hk : k < 12) : xCall K mX12_wordOf 0 0 0 [.int (nI k)] h G (xRet (some (.ref (K.2.2.2.2.1 (7 + k)))) h G) := by
  refine x_entry (by decide) (ls := [(0, .int (nI k))]) rfl (Nat.le_of_ble_eq_true rfl) ?_
  refine x_iload_n dX12_wordOf_0 0 rfl ?_
  rcases xsw_0_11 (nI k) with c1 | c1 | c1 | c1 | c1 | c1 | c1 | c1 | c1 | c1 | c1 | c1
  · refine x_tableIn (tgt := 60) (off := 59) dX12_wordOf_1 (by rw [c1]; decide) (by rw [c1]; decide) (by rw [c1]; rfl) (by decide) ?_
    refine x_ldcS 7 (by decide) rfl rfl dX12_wordOf_60 ?_
    exact x_aret dX12_wordOf_62 rfl (by simp) (by simp) (xRet_e (by have e1 := (nI_eq (by omega) (by decide)).mp c1; subst e1; rfl) rfl)
  · refine x_tableIn (tgt := 63) (off := 62) dX12_wordOf_1 (by rw [c1]; decide) (by rw [c1]; decide) (by rw [c1]; rfl) (by decide) ?_
    refine x_ldcS 8 (by decide) rfl rfl dX12_wordOf_63 ?_
    exact x_aret dX12_wordOf_65 rfl (by simp) (by simp) (xRet_e (by have e1 := (nI_eq (by omega) (by decide)).mp c1; subst e1; rfl) rfl)
  · refine x_tableIn (tgt := 66) (off := 65) dX12_wordOf_1 (by rw [c1]; decide) (by rw [c1]; decide) (by rw [c1]; rfl) (by decide) ?_
    refine x_ldcS 9 (by decide) rfl rfl dX12_wordOf_66 ?_
    exact x_aret dX12_wordOf_68 rfl (by simp) (by simp) (xRet_e (by have e1 := (nI_eq (by omega) (by decide)).mp c1; subst e1; rfl) rfl)
  · refine x_tableIn (tgt := 69) (off := 68) dX12_wordOf_1 (by rw [c1]; decide) (by rw [c1]; decide) (by rw [c1]; rfl) (by decide) ?_
    refine x_ldcS 10 (by decide) rfl rfl dX12_wordOf_69 ?_
    exact x_aret dX12_wordOf_71 rfl (by simp) (by simp) (xRet_e (by have e1 := (nI_eq (by omega) (by decide)).mp c1; subst e1; rfl) rfl)
  · refine x_tableIn (tgt := 72) (off := 71) dX12_wordOf_1 (by rw [c1]; decide) (by rw [c1]; decide) (by rw [c1]; rfl) (by decide) ?_
    refine x_ldcS 11 (by decide) rfl rfl dX12_wordOf_72 ?_
    exact x_aret dX12_wordOf_74 rfl (by simp) (by simp) (xRet_e (by have e1 := (nI_eq (by omega) (by decide)).mp c1; subst e1; rfl) rfl)
  · refine x_tableIn (tgt := 75) (off := 74) dX12_wordOf_1 (by rw [c1]; decide) (by rw [c1]; decide) (by rw [c1]; rfl) (by decide) ?_
    refine x_ldcS 12 (by decide) rfl rfl dX12_wordOf_75 ?_
    exact x_aret dX12_wordOf_77 rfl (by simp) (by simp) (xRet_e (by have e1 := (nI_eq (by omega) (by decide)).mp c1; subst e1; rfl) rfl)
  · refine x_tableIn (tgt := 78) (off := 77) dX12_wordOf_1 (by rw [c1]; decide) (by rw [c1]; decide) (by rw [c1]; rfl) (by decide) ?_
    refine x_ldcS 13 (by decide) rfl rfl dX12_wordOf_78 ?_
    exact x_aret dX12_wordOf_80 rfl (by simp) (by simp) (xRet_e (by have e1 := (nI_eq (by omega) (by decide)).mp c1; subst e1; rfl) rfl)
  · refine x_tableIn (tgt := 81) (off := 80) dX12_wordOf_1 (by rw [c1]; decide) (by rw [c1]; decide) (by rw [c1]; rfl) (by decide) ?_
    refine x_ldcS 14 (by decide) rfl rfl dX12_wordOf_81 ?_
    exact x_aret dX12_wordOf_83 rfl (by simp) (by simp) (xRet_e (by have e1 := (nI_eq (by omega) (by decide)).mp c1; subst e1; rfl) rfl)
  · refine x_tableIn (tgt := 84) (off := 83) dX12_wordOf_1 (by rw [c1]; decide) (by rw [c1]; decide) (by rw [c1]; rfl) (by decide) ?_
    refine x_ldcS 15 (by decide) rfl rfl dX12_wordOf_84 ?_
    exact x_aret dX12_wordOf_86 rfl (by simp) (by simp) (xRet_e (by have e1 := (nI_eq (by omega) (by decide)).mp c1; subst e1; rfl) rfl)
  · refine x_tableIn (tgt := 87) (off := 86) dX12_wordOf_1 (by rw [c1]; decide) (by rw [c1]; decide) (by rw [c1]; rfl) (by decide) ?_
    refine x_ldcS 16 (by decide) rfl rfl dX12_wordOf_87 ?_
    exact x_aret dX12_wordOf_89 rfl (by simp) (by simp) (xRet_e (by have e1 := (nI_eq (by omega) (by decide)).mp c1; subst e1; rfl) rfl)
  · refine x_tableIn (tgt := 90) (off := 89) dX12_wordOf_1 (by rw [c1]; decide) (by rw [c1]; decide) (by rw [c1]; rfl) (by decide) ?_
    refine x_ldcS 17 (by decide) rfl rfl dX12_wordOf_90 ?_
    exact x_aret dX12_wordOf_92 rfl (by simp) (by simp) (xRet_e (by have e1 := (nI_eq (by omega) (by decide)).mp c1; subst e1; rfl) rfl)
  · refine x_tableOut (tgt := 93) dX12_wordOf_1 (by omega) (by decide) ?_
    refine x_ldcS 18 (by decide) rfl rfl dX12_wordOf_93 ?_
    exact x_aret dX12_wordOf_95 rfl (by simp) (by simp) (xRet_e (by rw [wo_11 hk c1]) rfl)
theorem Md_value_loop {K : xG} {h y : Nat} {G0 G : xHp} {hl : xHl} {r : xRw} {sc : Nat × Nat × Int32} {A : Nat → Nat → Int32} {F : Nat → Int32} {wa sa : Nat → Int64} {tn p f sl en de co op : Nat} {tp : Nat → Nat} (hT : TpE (A 27) tp) (hlt : ∀ j, tp j < 256) (htn : tn ≤ 400) {qq : Nat} (hM : MW G0 G y hl r sc A (pF (upd F 36 (nI 12)) tn qq f sl en de co op) wa sa) (hq9 : qq < 60000) (hf9 : f < 1000000) (hc9 : co < 900) (hs : sl < 6) (he : f = 0 → en < 300) : ∀ (j k : Nat), k + j = 12 → wkF tp tn qq j k = (wkF tp tn qq 12 0) → xV K mX12_value 5 0 0 h G 37 [(2, .int (nI k)), (1, .int (nI qq)), (0, .ref y)] [] (mdQ G0 h y none hl r sc (if (wkF tp tn qq 12 0) = 12 then A else entA A (cfF f co qq) sl en 1 (wkF tp tn qq 12 0)) (pF (upd F 36 (nI 12)) tn (if (wkF tp tn qq 12 0) = 12 then qq else qq + (xs_byt (7 + (wkF tp tn qq 12 0))).length) (if (wkF tp tn qq 12 0) = 12 then flt f 0 qq else cfF f co qq) sl (if (wkF tp tn qq 12 0) = 12 then en else entN (cfF f co qq) en) de (if (wkF tp tn qq 12 0) = 12 then co else co + 1) op) wa sa) := by
  intro j
  induction j with
  | zero =>
    intro k hk hw
    have hk0 : k = 12 := by omega
    subst hk0
    have hw2 : (wkF tp tn qq 12 0) = 12 := hw.symm
    refine x_iload_n dX12_value_37 0 rfl ?_
    refine x_aload_n dX12_value_38 2 rfl ?_
    refine x_get (v := .int (nI 12)) dX12_value_39 fX12_88 (hM.1) rfl ?_
    refine x_icmpN_ge (tgt := 62) dX12_value_42 (by decide) (by omega) (by omega) (fun c42 => ?_) (fun c42 => ?_)
    · refine x_iload_n dX12_value_62 0 rfl ?_
      refine x_aload_n dX12_value_63 2 rfl ?_
      refine x_get (v := .int (nI 12)) dX12_value_64 fX12_88 (hM.1) rfl ?_
      refine x_icmpN_ne (tgt := 77) dX12_value_67 (by decide) (by omega) (by omega) (fun c67 => ?_) (fun c67 => ?_)
      · exact absurd rfl c67
      · refine x_aload_n dX12_value_70 2 rfl ?_
        refine x_pc (pc' := 71) rfl ?_
        refine x_iconst dX12_value_71 ki_0 ?_
        refine x_iload_n dX12_value_72 1 rfl ?_
        refine x_cVe (N := mX12_fails) (d' := 0) (mc := 0) (ms := 0) (cb := 0) (sb := 0) (As := [.int (nI 0), .int (nI qq)]) (st := []) dX12_value_73 mX12_fails_v lX12_226 rfl rfl (hM.1) rfl (by decide) (Nat.le_of_ble_eq_true rfl) (Md_fails hM hf9) rfl (sf := fun G2 => []) (fun _ => rfl) (fun G2 hN2 => ?_)
        exact x_vret dX12_value_76 rfl (xEx_i G2 (by rw [if_pos hw2, if_pos hw2, if_pos hw2, if_pos hw2, if_pos hw2]; exact hN2) rfl rfl rfl)
    · exact absurd c42 (by decide)
  | succ j ih =>
    intro k hk hw
    have hi : 7 + k < xs_n := Md_i7 (by omega)
    have hsl := xs_len_lt (7 + k)
    refine x_iload_n dX12_value_37 0 rfl ?_
    refine x_aload_n dX12_value_38 2 rfl ?_
    refine x_get (v := .int (nI 12)) dX12_value_39 fX12_88 (hM.1) rfl ?_
    refine x_icmpN_ge (tgt := 62) dX12_value_42 (by decide) (by omega) (by omega) (fun c42 => ?_) (fun c42 => ?_)
    · exact absurd c42 (by omega)
    · refine x_aload_n dX12_value_45 2 rfl ?_
      refine x_iload_n dX12_value_46 0 rfl ?_
      refine x_cS (N := mX12_wordOf) (d' := 0) (mc := 0) (ms := 0) (cb := 0) (sb := 0) (As := [.int (nI k)]) (st := [.ref y]) dX12_value_47 mX12_wordOf_s lX12_245 rfl (by decide) (Nat.le_of_ble_eq_true rfl) (Md_wordOf (by omega)) rfl (st1 := [.ref (K.2.2.2.2.1 (7 + k)), .ref y]) rfl ?_
      refine x_cV (N := mX12_stood) (d' := 4) (mc := 0) (ms := 0) (cb := 0) (sb := 0) (As := [.ref (K.2.2.2.2.1 (7 + k))]) (st := []) dX12_value_50 mX12_stood_v lX12_213 rfl rfl (hM.1) rfl (by decide) (Nat.le_of_ble_eq_true rfl) (Md_stood hT hlt htn hM (Md_i7 (by omega)) (by omega)) rfl (st1 := [.int (bI (stB tp tn qq (7 + k)))]) rfl ?_
      refine x_ifB_ne (tgt := 62) dX12_value_53 (by decide) (fun c53 => ?_) (fun c53 => ?_)
      · have hw2 : (wkF tp tn qq 12 0) = k := hw.symm.trans (if_pos c53)
        refine x_pc (pc' := 62) rfl ?_
        refine x_iload_n dX12_value_62 0 rfl ?_
        refine x_aload_n dX12_value_63 2 rfl ?_
        refine x_get (v := .int (nI 12)) dX12_value_64 fX12_88 (hM.1) rfl ?_
        refine x_icmpN_ne (tgt := 77) dX12_value_67 (by decide) (by omega) (by omega) (fun c67 => ?_) (fun c67 => ?_)
        · refine x_aload_n dX12_value_77 2 rfl ?_
          refine x_iload_n dX12_value_78 1 rfl ?_
          refine x_cVe (N := mX12_isCounted) (d' := 1) (mc := 0) (ms := 0) (cb := 0) (sb := 0) (As := [.int (nI qq)]) (st := []) dX12_value_79 mX12_isCounted_v lX12_239 rfl rfl (hM.1) rfl (by decide) (Nat.le_of_ble_eq_true rfl) (Md_isCounted (b := qq) hM hf9 (by omega)) rfl (sf := fun G2 => []) (fun _ => rfl) (fun G2 hN2 => ?_)
          refine x_aload_n dX12_value_82 2 rfl ?_
          refine x_dup dX12_value_83 rfl ?_
          refine x_get (v := .int (nI qq)) dX12_value_84 fX12_190 (hN2.1) rfl ?_
          refine x_pc (pc' := 87) rfl ?_
          refine x_iload_n dX12_value_87 0 rfl ?_
          refine x_cS (N := mX12_wordOf) (d' := 0) (mc := 0) (ms := 0) (cb := 0) (sb := 0) (As := [.int (nI k)]) (st := [.int (nI qq), .ref y]) dX12_value_88 mX12_wordOf_s lX12_245 rfl (by decide) (Nat.le_of_ble_eq_true rfl) (Md_wordOf (by omega)) rfl (st1 := [.ref (K.2.2.2.2.1 (7 + k)), .int (nI qq), .ref y]) rfl ?_
          refine x_cVS (i := (7 + k)) (N := mJ0_length_8abf5) (d' := 1) (mc := 0) (ms := 0) (cb := 0) (sb := 0) (As := []) (st := [.int (nI qq), .ref y]) hi dX12_value_91 mJ0_length_8abf5_v rfl lX12_201 rfl (by decide) (Nat.le_of_ble_eq_true rfl) (Str_length (Md_i7 (by omega))) rfl (st1 := [.int (nI ((xs_byt (7 + k)).length)), .int (nI qq), .ref y]) rfl ?_
          refine x_iaddN dX12_value_94 ?_
          refine x_put (fs' := [.int (F 0), .ref (y + 1), .ref (y + 2), .ref (y + 3), .ref (y + 4), .ref (y + 5), .ref (y + 6), .ref (y + 7), .ref (y + 8), .ref (y + 9), .ref (y + 10), .ref (y + 11), .ref (y + 12), .ref (y + 13), .ref (y + 14), .ref (y + 15), .ref (y + 16), .ref (y + 17), .ref (y + 18), .ref (y + 19), .ref (y + 20), .ref (y + 21), .ref (y + 22), .ref (y + 23), .ref (y + 24), .ref (y + 25), .ref (y + 26), .int (nI tn), .int (nI (qq + ((xs_byt (7 + k)).length))), .int (nI (cfF f co qq)), .int (nI sl), .int (F 31), .int (nI en), .int (nI de), .int (nI (co + 1)), .int (nI op), .int (nI 12), .ref (y + 27), .ref (y + 28), .ref (y + 29), .ref (y + 30), .ref (y + 31), .ref (y + 32), .ref (y + 33), .ref (y + 34), .ref (y + 35), .ref (y + 36), .ref (y + 37), .ref (y + 38), .int (F 49), .int (F 50), .int (F 51), .int (F 52), .int (F 53), .ref (y + 39), .ref (y + 40), .ref (y + 41), .int (F 57), .int (F 58), .ref (y + 42), .ref (y + 43), .ref (y + 44), .ref (y + 45), .int (F 63), .int (F 64)]) dX12_value_95 fX12_190 (hN2.1) (Nat.le_of_ble_eq_true rfl) rfl rfl rfl ?_
          refine x_geq (G' := xup _ y (modO y (pF (upd F 36 (nI 12)) tn (qq + ((xs_byt (7 + k)).length)) (cfF f co qq) sl en de (co + 1) op))) rfl ?_
          have hM1 := hN2.fld (pF (upd F 36 (nI 12)) tn (qq + ((xs_byt (7 + k)).length)) (cfF f co qq) sl en de (co + 1) op)
          refine x_aload_n dX12_value_98 2 rfl ?_
          refine x_iconst dX12_value_99 ki_1 ?_
          refine x_iload_n dX12_value_100 0 rfl ?_
          refine x_cVe (N := mX12_entry) (d' := 0) (mc := 0) (ms := 0) (cb := 0) (sb := 0) (As := [.int (nI 1), .int (nI k)]) (st := []) dX12_value_101 mX12_entry_v lX12_242 rfl rfl (hM1.1) rfl (by decide) (Nat.le_of_ble_eq_true rfl) (Md_entry (a := 1) (b := k) hM1 hs (cfF_lt hf9 (by omega)) (fun e0 => he (cf_0 e0))) rfl (sf := fun G3 => []) (fun _ => rfl) (fun G3 hN3 => ?_)
          exact x_vret dX12_value_104 rfl (xEx_i G3 (by rw [hw2, if_neg (show ¬ k = 12 by omega), if_neg (show ¬ k = 12 by omega), if_neg (show ¬ k = 12 by omega), if_neg (show ¬ k = 12 by omega), if_neg (show ¬ k = 12 by omega)]; exact hN3) rfl rfl rfl)
        · exact absurd c67 (by omega)
      · refine x_pc (pc' := 56) rfl ?_
        refine x_iinc (v := nI (k + 1)) (ls' := [(2, .int (nI (k + 1))), (1, .int (nI qq)), (0, .ref y)]) dX12_value_56 0 rfl (nIs _) (by decide) rfl ?_
        refine x_goto (tgt := 37) dX12_value_59 (by decide) ?_
        exact ih (k + 1) (by omega) ((if_neg (by rw [c53]; decide)).symm.trans hw)
theorem Md_value {K : xG} {h y : Nat} {G0 G : xHp} {hl : xHl} {r : xRw} {sc : Nat × Nat × Int32} {A : Nat → Nat → Int32} {F : Nat → Int32} {wa sa : Nat → Int64} {tn p f sl en de co op : Nat} {tp : Nat → Nat} (hT : TpE (A 27) tp) (hlt : ∀ j, tp j < 256) (htn : tn ≤ 400) (hM : MW G0 G y hl r sc A (pF (upd F 36 (nI 12)) tn p f sl en de co op) wa sa) (hp9 : p < 50000) (hf9 : f < 1000000) (hc9 : co < 900) (hs : sl < 6) (he : f = 0 → en < 300) : xCall K mX12_value 5 0 0 [.ref y] h G (mdQ G0 h y none hl r sc (valA tp tn p f co A sl en) (pF (upd F 36 (nI 12)) tn (valQ tp tn p) (valF tp tn p f co) sl (valN tp tn p f co en) de (valC tp tn p co) op) wa sa) := by
  refine x_entry (by decide) (ls := [(0, .ref y)]) rfl (Nat.le_of_ble_eq_true rfl) ?_
  have hq9 := sk_9 (tp := tp) htn hp9
  refine x_aload_n dX12_value_0 0 rfl ?_
  refine x_cVe (N := mX12_blanks) (d' := 1) (mc := 0) (ms := 0) (cb := 0) (sb := 0) (As := []) (st := []) dX12_value_1 mX12_blanks_v lX12_210 rfl rfl (hM.1) rfl (by decide) (Nat.le_of_ble_eq_true rfl) (Md_blanksA hT hlt htn hM (by omega)) rfl (sf := fun G1 => []) (fun _ => rfl) (fun G1 hN1 => ?_)
  refine x_aload_n dX12_value_4 0 rfl ?_
  refine x_get (v := .int (nI (skP tp tn p))) dX12_value_5 fX12_190 (hN1.1) rfl ?_
  refine x_istore_n (ls' := [(1, .int (nI (skP tp tn p))), (0, .ref y)]) dX12_value_8 (by decide) rfl ?_
  refine x_aload_n dX12_value_9 1 rfl ?_
  refine x_cV (N := mX12_isDigit) (d' := 1) (mc := 0) (ms := 0) (cb := 0) (sb := 0) (As := []) (st := []) dX12_value_10 mX12_isDigit_v lX12_230 rfl rfl (hN1.1) rfl (by decide) (Nat.le_of_ble_eq_true rfl) (Md_isDigit hT hlt htn hN1 (by omega)) rfl (st1 := [.int (bI (dgB tp tn (skP tp tn p)))]) rfl ?_
  refine x_ifB_eq (tgt := 35) dX12_value_13 (by decide) (fun c13 => ?_) (fun c13 => ?_)
  · refine x_iconst dX12_value_35 ki_0 ?_
    refine x_pc (pc' := 36) rfl ?_
    refine x_istore_n (ls' := [(2, .int (nI 0)), (1, .int (nI (skP tp tn p))), (0, .ref y)]) dX12_value_36 (by decide) rfl ?_
    have e3 := Md_value_loop (K := K) (h := h) (p := p) hT hlt htn hN1 hq9 hf9 hc9 hs he 12 0 rfl rfl
    refine x_post (fun v h2 G9 hq => ?_) e3
    obtain ⟨G8, hq1, hq2, hq3, hq4⟩ := hq
    refine ⟨G8, ?_, hq2, hq3, hq4⟩
    have c14 : ¬ dgB tp tn (skP tp tn p) = true := by rw [c13]; decide
    exact val_to c14 c13 hq1
  · refine x_aload_n dX12_value_16 1 rfl ?_
    refine x_pc (pc' := 17) rfl ?_
    refine x_ldc dX12_value_17 cX12_234 ?_
    refine x_topi (y := nI 99999) (by decide) ?_
    refine x_cVe (N := mX12_digits) (d' := 2) (mc := 0) (ms := 0) (cb := 0) (sb := 0) (As := [.int (nI 99999)]) (st := []) dX12_value_19 mX12_digits_v lX12_235 rfl rfl (hN1.1) rfl (by decide) (Nat.le_of_ble_eq_true rfl) (Md_digits_y hT hlt htn hN1 hf9 c13) rfl (sf := fun G2 => [.int (nI (dvN tp (skP tp tn p) ((runF (isDg tp) (tn - skP tp tn p) (skP tp tn p)) - skP tp tn p)))]) (fun _ => rfl) (fun G2 hN2 => ?_)
    refine x_istore_n (ls' := [(2, .int (nI (dvN tp (skP tp tn p) ((runF (isDg tp) (tn - skP tp tn p) (skP tp tn p)) - skP tp tn p)))), (1, .int (nI (skP tp tn p))), (0, .ref y)]) dX12_value_22 (by decide) rfl ?_
    refine x_aload_n dX12_value_23 2 rfl ?_
    refine x_iload_n dX12_value_24 1 rfl ?_
    refine x_cVe (N := mX12_isCounted) (d' := 1) (mc := 0) (ms := 0) (cb := 0) (sb := 0) (As := [.int (nI (skP tp tn p))]) (st := []) dX12_value_25 mX12_isCounted_v lX12_239 rfl rfl (hN2.1) rfl (by decide) (Nat.le_of_ble_eq_true rfl) (Md_isCounted (b := skP tp tn p) hN2 (dgF_lt hf9 (by omega)) (by omega)) rfl (sf := fun G3 => []) (fun _ => rfl) (fun G3 hN3 => ?_)
    refine x_aload_n dX12_value_28 2 rfl ?_
    refine x_iconst dX12_value_29 ki_0 ?_
    refine x_iload_n dX12_value_30 0 rfl ?_
    refine x_cVe (N := mX12_entry) (d' := 0) (mc := 0) (ms := 0) (cb := 0) (sb := 0) (As := [.int (nI 0), .int (nI (dvN tp (skP tp tn p) ((runF (isDg tp) (tn - skP tp tn p) (skP tp tn p)) - skP tp tn p)))]) (st := []) dX12_value_31 mX12_entry_v lX12_242 rfl rfl (hN3.1) rfl (by decide) (Nat.le_of_ble_eq_true rfl) (Md_entry (a := 0) (b := dvN tp (skP tp tn p) ((runF (isDg tp) (tn - skP tp tn p) (skP tp tn p)) - skP tp tn p)) hN3 hs (cfF_lt (dgF_lt hf9 (by omega)) (by omega)) (fun e0 => he (dg_0 (cf_0 e0)))) rfl (sf := fun G4 => []) (fun _ => rfl) (fun G4 hN4 => ?_)
    refine x_pc (pc' := 34) rfl ?_
    exact x_vret dX12_value_34 rfl (xEx_i G4 (by rw [valA, valQ, valF, valC, valN, valF, if_pos c13, if_pos c13, if_pos c13, if_neg (fun q0 => absurd (q0.1.symm.trans c13) (by decide)), if_neg (fun q0 => absurd (q0.1.symm.trans c13) (by decide))]; exact hN4) rfl rfl rfl)
