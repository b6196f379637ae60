theorem Md_sign {K : xG} {h y : Nat} {G0 G : xHp} {hl : xHl} {r : xRw} {sc : Nat × Nat × Int32} {A : Nat → Nat → Int32} {F : Nat → Int32} {wa sa : Nat → Int64} {tn p f sl en de co op : Nat} {tp : Nat → Nat} (hT : TpE (A 27) tp) (hlt : ∀ j, tp j < 256) (htn : tn ≤ 400) (hM : MW G0 G y hl r sc A (pF F tn p f sl en de co op) wa sa) (hp9 : p < 100000) : xCall K mX12_sign 0 0 0 [.ref y] h G (xRet (some (.int (sgV tp tn p))) h G) := by
  by_cases e : p < tn
  · rw [show sgV tp tn p = nI (tp p) from if_pos e]; exact Md_sign_i hM hT.a htn e
  · rw [show sgV tp tn p = -1 from if_neg e]; exact Md_sign_o hM htn (by omega) hp9
theorem Md_isDigit {K : xG} {h y : Nat} {G0 G : xHp} {hl : xHl} {r : xRw} {sc : Nat × Nat × Int32} {A : Nat → Nat → Int32} {F : Nat → Int32} {wa sa : Nat → Int64} {tn p f sl en de co op : Nat} {tp : Nat → Nat} (hT : TpE (A 27) tp) (hlt : ∀ j, tp j < 256) (htn : tn ≤ 400) (hM : MW G0 G y hl r sc A (pF F tn p f sl en de co op) wa sa) (hp9 : p < 100000) : xCall K mX12_isDigit 1 0 0 [.ref y] h G (xRet (some (.int (bI (dgB tp tn p)))) h G) := by
  by_cases e : p < tn
  · rw [show dgB tp tn p = isDg tp p by unfold dgB; rw [decide_eq_true e]; rfl]; exact Md_isDigit_i hT.a hlt htn hM e
  · rw [show dgB tp tn p = false by unfold dgB; rw [decide_eq_false e]; rfl]; exact Md_isDigit_o hM htn (by omega) hp9
theorem Md_blanks_o {K : xG} {h y : Nat} {G0 G : xHp} {hl : xHl} {r : xRw} {sc : Nat × Nat × Int32} {A : Nat → Nat → Int32} {F : Nat → Int32} {wa sa : Nat → Int64} {tn p f sl en de co op : Nat} (hM : MW G0 G y hl r sc A (pF F tn p f sl en de co op) wa sa) (htn : tn ≤ 400) (hp : tn ≤ p) (hp9 : p < 100000) : xCall K mX12_blanks 1 0 0 [.ref y] h G (xRet none h G) := by
  refine x_entry (by decide) (ls := [(0, .ref y)]) rfl (Nat.le_of_ble_eq_true rfl) ?_
  refine x_aload_n dX12_blanks_0 0 rfl ?_
  refine x_cV (N := mX12_sign) (d' := 0) (mc := 0) (ms := 0) (cb := 0) (sb := 0) (As := []) (st := []) dX12_blanks_1 mX12_sign_v lX12_193 rfl rfl (hM.1) rfl (by decide) (Nat.le_of_ble_eq_true rfl) (Md_sign_o hM htn hp hp9) rfl (st1 := [.int (-1)]) rfl ?_
  refine x_bipush dX12_blanks_4 kb_32 ?_
  refine x_icmp_ne (x := (-1)) (y := nI 32) (tgt := 22) dX12_blanks_6 (by decide) (fun c6 => ?_) (fun c6 => ?_)
  · exact x_vret dX12_blanks_22 rfl (xRet_i)
  · exact absurd c6 (by decide)
theorem Md_blanksA {K : xG} {h y : Nat} {G0 G : xHp} {hl : xHl} {r : xRw} {sc : Nat × Nat × Int32} {A : Nat → Nat → Int32} {F : Nat → Int32} {wa sa : Nat → Int64} {tn p f sl en de co op : Nat} {tp : Nat → Nat} (hT : TpE (A 27) tp) (hlt : ∀ j, tp j < 256) (htn : tn ≤ 400) (hM : MW G0 G y hl r sc A (pF F tn p f sl en de co op) wa sa) (hp9 : p < 100000) : xCall K mX12_blanks 1 0 0 [.ref y] h G (mdQ G0 h y none hl r sc A (pF F tn (skP tp tn p) f sl en de co op) wa sa) := by
  by_cases e : p ≤ tn
  · exact Md_blanks hT.a hlt htn hM e
  · rw [skP_o (by omega)]
    refine x_callpost (fun v h' G' hq => ?_) (Md_blanks_o hM htn (by omega) hp9)
    obtain ⟨e1, e2, e3⟩ := hq
    subst e1 e2 e3
    exact xEx_i G' hM rfl rfl rfl
theorem Md_stood_loop2 {K : xG} {h y : Nat} {G0 G : xHp} {hl : xHl} {r : xRw} {sc : Nat × Nat × Int32} {A : Nat → Nat → Int32} {F : Nat → Int32} {wa sa : Nat → Int64} {tn p f sl en de co op : Nat} {tp : Nat → Nat} (hT : TpE (A 27) tp) (hlt : ∀ j, tp j < 256) (htn : tn ≤ 400) (hM : MW G0 G y hl r sc A (pF F tn p f sl en de co op) wa sa) {i : Nat} (hi : i < xs_n) {e : Nat} (he : runF (isLw tp) (tn - p) p = e) (hp9 : p < 100000) : ∀ (j k : Nat) (b : Bool), k + j = (xs_byt i).length → (b = (decide (e - p = (xs_byt i).length) && eqW tp p i k)) → xV K mX12_stood 4 0 0 h G 63 [(4, .int (nI k)), (3, .int (bI b)), (2, .int (nI e)), (0, .ref y), (1, .ref (K.2.2.2.2.1 i))] [] (xRet (some (.int (bI (stB tp tn p i)))) h G) := by
  have hwl := wl_len i
  have hsl := xs_len_lt i
  have hru := runF_le (isLw tp) (tn - p) p
  rw [he] at hru
  intro j
  induction j with
  | zero =>
    intro k b hk hb
    have hk0 : k = (xs_byt i).length := by omega
    subst hk0
    refine x_iload dX12_stood_63 0 rfl ?_
    refine x_aload_n dX12_stood_65 4 rfl ?_
    refine x_cVS (i := i) (N := mJ0_length_8abf5) (d' := 1) (mc := 0) (ms := 0) (cb := 0) (sb := 0) (As := []) (st := [.int (nI ((xs_byt i).length))]) hi dX12_stood_66 mJ0_length_8abf5_v rfl lX12_201 rfl (by decide) (Nat.le_of_ble_eq_true rfl) (Str_length hi) rfl (st1 := [.int (nI ((xs_byt i).length)), .int (nI ((xs_byt i).length))]) rfl ?_
    refine x_icmpN_ge (tgt := 109) dX12_stood_69 (by decide) (by omega) (by omega) (fun c69 => ?_) (fun c69 => ?_)
    · refine x_iload_n dX12_stood_109 1 rfl ?_
      exact x_zret dX12_stood_110 rfl (by first | rfl | decide | exact bI_nar _) (xRet_e (by rw [hb]; unfold stB; rw [he, hwl]) rfl)
    · exact absurd c69 (by omega)
  | succ j ih =>
    intro k b hk hb
    refine x_iload dX12_stood_63 0 rfl ?_
    refine x_aload_n dX12_stood_65 4 rfl ?_
    refine x_cVS (i := i) (N := mJ0_length_8abf5) (d' := 1) (mc := 0) (ms := 0) (cb := 0) (sb := 0) (As := []) (st := [.int (nI k)]) hi dX12_stood_66 mJ0_length_8abf5_v rfl lX12_201 rfl (by decide) (Nat.le_of_ble_eq_true rfl) (Str_length hi) rfl (st1 := [.int (nI ((xs_byt i).length)), .int (nI k)]) rfl ?_
    refine x_icmpN_ge (tgt := 109) dX12_stood_69 (by decide) (by omega) (by omega) (fun c69 => ?_) (fun c69 => ?_)
    · exact absurd c69 (by omega)
    · refine x_iload_n dX12_stood_72 1 rfl ?_
      refine x_ifB_eq (tgt := 109) dX12_stood_73 (by decide) (fun c73 => ?_) (fun c73 => ?_)
      · rw [c73] at hb
        refine x_iload_n dX12_stood_109 1 rfl ?_
        exact x_zret dX12_stood_110 rfl (by first | rfl | decide | exact bI_nar _) (xRet_e (by rw [c73]; congr 1; symm; unfold stB; rw [he, hwl]; rw [stB_f hb.symm (by omega)]) rfl)
      · rw [c73] at hb
        obtain ⟨hb1, hb2⟩ := (Bool.and_eq_true _ _).mp hb.symm
        have hb3 := of_decide_eq_true hb1
        have hkl := runF_in (P := isLw tp) (k := tn - p) (p := p) (j := p + k) (by omega) (by omega)
        have hA := hT.lw (j := p + k) (by omega) hkl
        obtain ⟨hx1, hx2⟩ := wl_ch i hi k (by omega)
        have htk := hlt (p + k)
        refine x_aload_n dX12_stood_76 3 rfl ?_
        refine x_get (v := .ref (y + 27)) dX12_stood_77 fX12_92 (hM.1) rfl ?_
        refine x_aload_n dX12_stood_80 3 rfl ?_
        refine x_pc (pc' := 81) rfl ?_
        refine x_get (v := .int (nI p)) dX12_stood_81 fX12_190 (hM.1) rfl ?_
        refine x_iload dX12_stood_84 0 rfl ?_
        refine x_iaddN dX12_stood_86 ?_
        refine x_baldN (n := 400) (f := A 27) dX12_stood_87 (hM.c27) (by omega) (by decide) ?_
        refine x_topi (y := nI (tp (p + k))) hA ?_
        refine x_aload_n dX12_stood_88 4 rfl ?_
        refine x_iload dX12_stood_89 0 rfl ?_
        refine x_cVS (i := i) (N := mJ0_charAt_5068e) (d' := 3) (mc := 0) (ms := 0) (cb := 0) (sb := 0) (As := [.int (nI k)]) (st := [.int (nI (tp (p + k)))]) hi dX12_stood_91 mJ0_charAt_5068e_v rfl lX12_206 rfl (by decide) (Nat.le_of_ble_eq_true rfl) (Str_charAt hi (by omega)) rfl (st1 := [.int (xs_ch i k), .int (nI (tp (p + k)))]) rfl ?_
        refine x_topi (y := nI ((wl i).getD k 0)) hx1 ?_
        refine x_icmpN_ne (tgt := 101) dX12_stood_94 (by decide) (by omega) (by omega) (fun c94 => ?_) (fun c94 => ?_)
        · refine x_iconst dX12_stood_101 ki_0 ?_
          refine x_istore_n (ls' := [(3, .int (nI 0)), (4, .int (nI k)), (2, .int (nI e)), (0, .ref y), (1, .ref (K.2.2.2.2.1 i))]) dX12_stood_102 (by decide) rfl ?_
          refine x_pc (pc' := 103) rfl ?_
          refine x_iinc (v := nI (k + 1)) (ls' := [(4, .int (nI (k + 1))), (3, .int (nI 0)), (2, .int (nI e)), (0, .ref y), (1, .ref (K.2.2.2.2.1 i))]) dX12_stood_103 1 rfl (nIs _) (by decide) rfl ?_
          refine x_goto (tgt := 63) dX12_stood_106 (by decide) ?_
          exact ih (k + 1) false (by omega) (by rw [decide_eq_true hb3]; show false = (eqW tp p i k && decide (tp (p + k) = (wl i).getD k 0)); rw [hb2, decide_eq_false c94]; rfl)
        · refine x_iconst dX12_stood_97 ki_1 ?_
          refine x_goto (tgt := 102) dX12_stood_98 (by decide) ?_
          refine x_pc (pc' := 102) rfl ?_
          refine x_istore_n (ls' := [(3, .int (nI 1)), (4, .int (nI k)), (2, .int (nI e)), (0, .ref y), (1, .ref (K.2.2.2.2.1 i))]) dX12_stood_102 (by decide) rfl ?_
          refine x_iinc (v := nI (k + 1)) (ls' := [(4, .int (nI (k + 1))), (3, .int (nI 1)), (2, .int (nI e)), (0, .ref y), (1, .ref (K.2.2.2.2.1 i))]) dX12_stood_103 1 rfl (nIs _) (by decide) rfl ?_
          refine x_goto (tgt := 63) dX12_stood_106 (by decide) ?_
          exact ih (k + 1) true (by omega) (by rw [decide_eq_true hb3]; show true = (eqW tp p i k && decide (tp (p + k) = (wl i).getD k 0)); rw [hb2, decide_eq_true c94]; rfl)
theorem Md_stood_loop1 {K : xG} {h y : Nat} {G0 G : xHp} {hl : xHl} {r : xRw} {sc : Nat × Nat × Int32} {A : Nat → Nat → Int32} {F : Nat → Int32} {wa sa : Nat → Int64} {tn p f sl en de co op : Nat} {tp : Nat → Nat} (hT : TpE (A 27) tp) (hlt : ∀ j, tp j < 256) (htn : tn ≤ 400) (hM : MW G0 G y hl r sc A (pF F tn p f sl en de co op) wa sa) {i : Nat} (hi : i < xs_n) (hp9 : p < 100000) : ∀ (j e : Nat), e + j = tn ∨ (j = 0 ∧ tn ≤ e ∧ e = p) → p ≤ e → runF (isLw tp) j e = runF (isLw tp) (tn - p) p → xV K mX12_stood 4 0 0 h G 5 [(2, .int (nI e)), (0, .ref y), (1, .ref (K.2.2.2.2.1 i))] [] (xRet (some (.int (bI (stB tp tn p i)))) h G) := by
  have hwl := wl_len i
  have hsl := xs_len_lt i
  intro j
  induction j with
  | zero =>
    intro e hj hpe he
    have he2 : runF (isLw tp) (tn - p) p = e := he.symm
    refine x_iload_n dX12_stood_5 0 rfl ?_
    refine x_aload_n dX12_stood_6 1 rfl ?_
    refine x_get (v := .int (nI tn)) dX12_stood_7 fX12_159 (hM.1) rfl ?_
    refine x_icmpN_ge (tgt := 41) dX12_stood_10 (by decide) (by omega) (by omega) (fun c10 => ?_) (fun c10 => ?_)
    · refine x_iload_n dX12_stood_41 0 rfl ?_
      refine x_aload_n dX12_stood_42 1 rfl ?_
      refine x_get (v := .int (nI p)) dX12_stood_43 fX12_190 (hM.1) rfl ?_
      refine x_isubN dX12_stood_46 (by omega) ?_
      refine x_aload_n dX12_stood_47 2 rfl ?_
      refine x_pc (pc' := 48) rfl ?_
      refine x_cVS (i := i) (N := mJ0_length_8abf5) (d' := 1) (mc := 0) (ms := 0) (cb := 0) (sb := 0) (As := []) (st := [.int (nI (e - p))]) hi dX12_stood_48 mJ0_length_8abf5_v rfl lX12_201 rfl (by decide) (Nat.le_of_ble_eq_true rfl) (Str_length hi) rfl (st1 := [.int (nI ((xs_byt i).length)), .int (nI (e - p))]) rfl ?_
      refine x_icmpN_ne (tgt := 58) dX12_stood_51 (by decide) (by omega) (by omega) (fun c51 => ?_) (fun c51 => ?_)
      · refine x_iconst dX12_stood_58 ki_0 ?_
        refine x_topi (y := bI false) rfl ?_
        refine x_istore_n (ls' := [(3, .int (bI false)), (2, .int (nI e)), (0, .ref y), (1, .ref (K.2.2.2.2.1 i))]) dX12_stood_59 (by decide) rfl ?_
        refine x_iconst dX12_stood_60 ki_0 ?_
        refine x_istore (ls' := [(4, .int (nI 0)), (3, .int (bI false)), (2, .int (nI e)), (0, .ref y), (1, .ref (K.2.2.2.2.1 i))]) dX12_stood_61 (by decide) rfl ?_
        exact Md_stood_loop2 hT hlt htn hM hi he2 hp9 (xs_byt i).length 0 false (by omega) (by rw [decide_eq_false c51]; rfl)
      · refine x_iconst dX12_stood_54 ki_1 ?_
        refine x_goto (tgt := 59) dX12_stood_55 (by decide) ?_
        refine x_topi (y := bI true) rfl ?_
        refine x_istore_n (ls' := [(3, .int (bI true)), (2, .int (nI e)), (0, .ref y), (1, .ref (K.2.2.2.2.1 i))]) dX12_stood_59 (by decide) rfl ?_
        refine x_iconst dX12_stood_60 ki_0 ?_
        refine x_istore (ls' := [(4, .int (nI 0)), (3, .int (bI true)), (2, .int (nI e)), (0, .ref y), (1, .ref (K.2.2.2.2.1 i))]) dX12_stood_61 (by decide) rfl ?_
        exact Md_stood_loop2 hT hlt htn hM hi he2 hp9 (xs_byt i).length 0 true (by omega) (by rw [decide_eq_true c51]; rfl)
    · exact absurd c10 (by omega)
  | succ j ih =>
    intro e hj hpe he
    have hj : e + (j + 1) = tn := by omega
    refine x_iload_n dX12_stood_5 0 rfl ?_
    refine x_aload_n dX12_stood_6 1 rfl ?_
    refine x_get (v := .int (nI tn)) dX12_stood_7 fX12_159 (hM.1) rfl ?_
    refine x_icmpN_ge (tgt := 41) dX12_stood_10 (by decide) (by omega) (by omega) (fun c10 => ?_) (fun c10 => ?_)
    · exact absurd c10 (by omega)
    · refine x_aload_n dX12_stood_13 1 rfl ?_
      refine x_get (v := .ref (y + 27)) dX12_stood_14 fX12_92 (hM.1) rfl ?_
      refine x_iload_n dX12_stood_17 0 rfl ?_
      refine x_baldN (n := 400) (f := A 27) dX12_stood_18 (hM.c27) (by omega) (by decide) ?_
      refine x_bipush dX12_stood_19 kb_97 ?_
      refine x_pc (pc' := 21) rfl ?_
      refine x_icmp_lt (x := (A 27) e) (y := nI 97) (tgt := 41) dX12_stood_21 (by decide) (fun c21 => ?_) (fun c21 => ?_)
      · have he2 : runF (isLw tp) (tn - p) p = e := he.symm.trans (runF_f (hT.lo (by omega) c21))
        refine x_iload_n dX12_stood_41 0 rfl ?_
        refine x_aload_n dX12_stood_42 1 rfl ?_
        refine x_get (v := .int (nI p)) dX12_stood_43 fX12_190 (hM.1) rfl ?_
        refine x_isubN dX12_stood_46 (by omega) ?_
        refine x_aload_n dX12_stood_47 2 rfl ?_
        refine x_cVS (i := i) (N := mJ0_length_8abf5) (d' := 1) (mc := 0) (ms := 0) (cb := 0) (sb := 0) (As := []) (st := [.int (nI (e - p))]) hi dX12_stood_48 mJ0_length_8abf5_v rfl lX12_201 rfl (by decide) (Nat.le_of_ble_eq_true rfl) (Str_length hi) rfl (st1 := [.int (nI ((xs_byt i).length)), .int (nI (e - p))]) rfl ?_
        refine x_icmpN_ne (tgt := 58) dX12_stood_51 (by decide) (by omega) (by omega) (fun c51 => ?_) (fun c51 => ?_)
        · refine x_iconst dX12_stood_58 ki_0 ?_
          refine x_topi (y := bI false) rfl ?_
          refine x_istore_n (ls' := [(3, .int (bI false)), (2, .int (nI e)), (0, .ref y), (1, .ref (K.2.2.2.2.1 i))]) dX12_stood_59 (by decide) rfl ?_
          refine x_pc (pc' := 60) rfl ?_
          refine x_iconst dX12_stood_60 ki_0 ?_
          refine x_istore (ls' := [(4, .int (nI 0)), (3, .int (bI false)), (2, .int (nI e)), (0, .ref y), (1, .ref (K.2.2.2.2.1 i))]) dX12_stood_61 (by decide) rfl ?_
          exact Md_stood_loop2 hT hlt htn hM hi he2 hp9 (xs_byt i).length 0 false (by omega) (by rw [decide_eq_false c51]; rfl)
        · refine x_iconst dX12_stood_54 ki_1 ?_
          refine x_goto (tgt := 59) dX12_stood_55 (by decide) ?_
          refine x_topi (y := bI true) rfl ?_
          refine x_pc (pc' := 59) rfl ?_
          refine x_istore_n (ls' := [(3, .int (bI true)), (2, .int (nI e)), (0, .ref y), (1, .ref (K.2.2.2.2.1 i))]) dX12_stood_59 (by decide) rfl ?_
          refine x_iconst dX12_stood_60 ki_0 ?_
          refine x_istore (ls' := [(4, .int (nI 0)), (3, .int (bI true)), (2, .int (nI e)), (0, .ref y), (1, .ref (K.2.2.2.2.1 i))]) dX12_stood_61 (by decide) rfl ?_
          exact Md_stood_loop2 hT hlt htn hM hi he2 hp9 (xs_byt i).length 0 true (by omega) (by rw [decide_eq_true c51]; rfl)
      · refine x_aload_n dX12_stood_24 1 rfl ?_
        refine x_get (v := .ref (y + 27)) dX12_stood_25 fX12_92 (hM.1) rfl ?_
        refine x_iload_n dX12_stood_28 0 rfl ?_
        refine x_baldN (n := 400) (f := A 27) dX12_stood_29 (hM.c27) (by omega) (by decide) ?_
        refine x_bipush dX12_stood_30 kb_122 ?_
        refine x_icmp_gt (x := (A 27) e) (y := nI 122) (tgt := 41) dX12_stood_32 (by decide) (fun c32 => ?_) (fun c32 => ?_)
        · have he2 : runF (isLw tp) (tn - p) p = e := he.symm.trans (runF_f (hT.hi (by omega) c32))
          refine x_iload_n dX12_stood_41 0 rfl ?_
          refine x_aload_n dX12_stood_42 1 rfl ?_
          refine x_get (v := .int (nI p)) dX12_stood_43 fX12_190 (hM.1) rfl ?_
          refine x_pc (pc' := 46) rfl ?_
          refine x_isubN dX12_stood_46 (by omega) ?_
          refine x_aload_n dX12_stood_47 2 rfl ?_
          refine x_cVS (i := i) (N := mJ0_length_8abf5) (d' := 1) (mc := 0) (ms := 0) (cb := 0) (sb := 0) (As := []) (st := [.int (nI (e - p))]) hi dX12_stood_48 mJ0_length_8abf5_v rfl lX12_201 rfl (by decide) (Nat.le_of_ble_eq_true rfl) (Str_length hi) rfl (st1 := [.int (nI ((xs_byt i).length)), .int (nI (e - p))]) rfl ?_
          refine x_icmpN_ne (tgt := 58) dX12_stood_51 (by decide) (by omega) (by omega) (fun c51 => ?_) (fun c51 => ?_)
          · refine x_iconst dX12_stood_58 ki_0 ?_
            refine x_topi (y := bI false) rfl ?_
            refine x_istore_n (ls' := [(3, .int (bI false)), (2, .int (nI e)), (0, .ref y), (1, .ref (K.2.2.2.2.1 i))]) dX12_stood_59 (by decide) rfl ?_
            refine x_iconst dX12_stood_60 ki_0 ?_
            refine x_istore (ls' := [(4, .int (nI 0)), (3, .int (bI false)), (2, .int (nI e)), (0, .ref y), (1, .ref (K.2.2.2.2.1 i))]) dX12_stood_61 (by decide) rfl ?_
            exact Md_stood_loop2 hT hlt htn hM hi he2 hp9 (xs_byt i).length 0 false (by omega) (by rw [decide_eq_false c51]; rfl)
          · refine x_iconst dX12_stood_54 ki_1 ?_
            refine x_goto (tgt := 59) dX12_stood_55 (by decide) ?_
            refine x_topi (y := bI true) rfl ?_
            refine x_istore_n (ls' := [(3, .int (bI true)), (2, .int (nI e)), (0, .ref y), (1, .ref (K.2.2.2.2.1 i))]) dX12_stood_59 (by decide) rfl ?_
            refine x_iconst dX12_stood_60 ki_0 ?_
            refine x_istore (ls' := [(4, .int (nI 0)), (3, .int (bI true)), (2, .int (nI e)), (0, .ref y), (1, .ref (K.2.2.2.2.1 i))]) dX12_stood_61 (by decide) rfl ?_
            exact Md_stood_loop2 hT hlt htn hM hi he2 hp9 (xs_byt i).length 0 true (by omega) (by rw [decide_eq_true c51]; rfl)
        · refine x_iinc (v := nI (e + 1)) (ls' := [(2, .int (nI (e + 1))), (0, .ref y), (1, .ref (K.2.2.2.2.1 i))]) dX12_stood_35 0 rfl (nIs _) (by decide) rfl ?_
          refine x_goto (tgt := 5) dX12_stood_38 (by decide) ?_
          exact ih (e + 1) (Or.inl (by omega)) (by omega) ((runF_t (hT.mid (by omega) c21 c32)).symm.trans he)
theorem Md_stood {K : xG} {h y : Nat} {G0 G : xHp} {hl : xHl} {r : xRw} {sc : Nat × Nat × Int32} {A : Nat → Nat → Int32} {F : Nat → Int32} {wa sa : Nat → Int64} {tn p f sl en de co op : Nat} {tp : Nat → Nat} (hT : TpE (A 27) tp) (hlt : ∀ j, tp j < 256) (htn : tn ≤ 400) (hM : MW G0 G y hl r sc A (pF F tn p f sl en de co op) wa sa) {i : Nat} (hi : i < xs_n) (hp9 : p < 100000) : xCall K mX12_stood 4 0 0 [.ref y, .ref (K.2.2.2.2.1 i)] h G (xRet (some (.int (bI (stB tp tn p i)))) h G) := by
  refine x_entry (by decide) (ls := [(0, .ref y), (1, .ref (K.2.2.2.2.1 i))]) rfl (Nat.le_of_ble_eq_true rfl) ?_
  refine x_aload_n dX12_stood_0 0 rfl ?_
  refine x_get (v := .int (nI p)) dX12_stood_1 fX12_190 (hM.1) rfl ?_
  refine x_istore_n (ls' := [(2, .int (nI p)), (0, .ref y), (1, .ref (K.2.2.2.2.1 i))]) dX12_stood_4 (by decide) rfl ?_
  exact Md_stood_loop1 hT hlt htn hM hi hp9 (tn - p) p (by omega) (by omega) rfl
theorem Md_digits_loop {K : xG} {h y : Nat} {G0 : xHp} {hl : xHl} {r : xRw} {sc : Nat × Nat × Int32} {A : Nat → Nat → Int32} {F : Nat → Int32} {wa sa : Nat → Int64} {tn p f sl en de co op : Nat} {tp : Nat → Nat} (hT : TpE (A 27) tp) (hlt : ∀ j, tp j < 256) (htn : tn ≤ 400) {e : Nat} (he : runF (isDg tp) (tn - p) p = e) (hp : p < tn) (hf9 : f < 1000000) : ∀ (j q : Nat) (G1 : xHp), q + j = tn → p ≤ q → (∀ k, k < q - p → isDg tp (p + k) = true) → runF (isDg tp) j q = e → MW G0 G1 y hl r sc A (pF F tn q f sl en de co op) wa sa → xV K mX12_digits 2 0 0 h G1 25 [(3, .int (nI (dvN tp p (q - p)))), (2, .int (nI p)), (0, .ref y), (1, .int (nI 99999))] [] (mdQ G0 h y (some (.int (nI (dvN tp p (e - p))))) hl r sc A (pF F tn e (dgF tp tn p f) sl en de co op) wa sa) := by
  intro j
  induction j with
  | zero =>
    intro q G1 hj hpq hd hq hN
    have hq0 : e = q := hq.symm
    subst hq0
    have hdv := (dvN_lt tp p (e - p) hd).1
    refine x_aload_n dX12_digits_25 2 rfl ?_
    refine x_cV (N := mX12_isDigit) (d' := 1) (mc := 0) (ms := 0) (cb := 0) (sb := 0) (As := []) (st := []) dX12_digits_26 mX12_isDigit_v lX12_230 rfl rfl (hN.1) rfl (by decide) (Nat.le_of_ble_eq_true rfl) (Md_isDigit hT hlt htn hN (by omega)) rfl (st1 := [.int (bI (dgB tp tn e))]) rfl ?_
    refine x_ifB_eq (tgt := 72) dX12_digits_29 (by decide) (fun c29 => ?_) (fun c29 => ?_)
    · refine x_aload_n dX12_digits_72 2 rfl ?_
      refine x_get (v := .int (nI e)) dX12_digits_73 fX12_190 (hN.1) rfl ?_
      refine x_iload_n dX12_digits_76 1 rfl ?_
      refine x_isubN dX12_digits_77 (by omega) ?_
      refine x_iconst dX12_digits_78 ki_5 ?_
      refine x_icmpN_gt (tgt := 87) dX12_digits_79 (by decide) (by omega) (by omega) (fun c79 => ?_) (fun c79 => ?_)
      · refine x_pc (pc' := 87) rfl ?_
        refine x_aload_n dX12_digits_87 2 rfl ?_
        refine x_iconst dX12_digits_88 ki_1 ?_
        refine x_iload_n dX12_digits_89 1 rfl ?_
        refine x_cVe (N := mX12_fails) (d' := 0) (mc := 0) (ms := 0) (cb := 0) (sb := 0) (As := [.int (nI 1), .int (nI p)]) (st := []) dX12_digits_90 mX12_fails_v lX12_226 rfl rfl (hN.1) rfl (by decide) (Nat.le_of_ble_eq_true rfl) (Md_fails hN hf9) rfl (sf := fun G2 => []) (fun _ => rfl) (fun G2 hN2 => ?_)
        refine x_iload_n dX12_digits_93 0 rfl ?_
        exact x_iret dX12_digits_94 rfl (xEx_i G2 (by rw [show dgF tp tn p f = flt f 1 p by unfold dgF; rw [he, if_pos (by omega)]]; exact hN2) rfl rfl rfl)
      · refine x_pc (pc' := 82) rfl ?_
        refine x_iload_n dX12_digits_82 0 rfl ?_
        refine x_iload_n dX12_digits_83 3 rfl ?_
        refine x_icmpN_le (tgt := 93) dX12_digits_84 (by decide) (by omega) (by omega) (fun c84 => ?_) (fun c84 => ?_)
        · refine x_iload_n dX12_digits_93 0 rfl ?_
          exact x_iret dX12_digits_94 rfl (xEx_i G1 (by rw [show dgF tp tn p f = f by unfold dgF; rw [he, if_neg (by omega)]]; exact hN) rfl rfl rfl)
        · exact absurd hdv (by omega)
    · exact absurd c29 (by unfold dgB; rw [decide_eq_false (by omega)]; simp)
  | succ j ih =>
    intro q G1 hj hpq hd hq hN
    have hdv := (dvN_lt tp p (q - p) hd).1
    have hlq := hlt q
    refine x_aload_n dX12_digits_25 2 rfl ?_
    refine x_cV (N := mX12_isDigit) (d' := 1) (mc := 0) (ms := 0) (cb := 0) (sb := 0) (As := []) (st := []) dX12_digits_26 mX12_isDigit_v lX12_230 rfl rfl (hN.1) rfl (by decide) (Nat.le_of_ble_eq_true rfl) (Md_isDigit hT hlt htn hN (by omega)) rfl (st1 := [.int (bI (dgB tp tn q))]) rfl ?_
    refine x_ifB_eq (tgt := 72) dX12_digits_29 (by decide) (fun c29 => ?_) (fun c29 => ?_)
    · have hq0 : e = q := hq.symm.trans (runF_f (by unfold dgB at c29; rw [decide_eq_true (show q < tn by omega)] at c29; exact c29))
      subst hq0
      refine x_aload_n dX12_digits_72 2 rfl ?_
      refine x_get (v := .int (nI e)) dX12_digits_73 fX12_190 (hN.1) rfl ?_
      refine x_iload_n dX12_digits_76 1 rfl ?_
      refine x_isubN dX12_digits_77 (by omega) ?_
      refine x_iconst dX12_digits_78 ki_5 ?_
      refine x_icmpN_gt (tgt := 87) dX12_digits_79 (by decide) (by omega) (by omega) (fun c79 => ?_) (fun c79 => ?_)
      · refine x_pc (pc' := 87) rfl ?_
        refine x_aload_n dX12_digits_87 2 rfl ?_
        refine x_iconst dX12_digits_88 ki_1 ?_
        refine x_iload_n dX12_digits_89 1 rfl ?_
        refine x_cVe (N := mX12_fails) (d' := 0) (mc := 0) (ms := 0) (cb := 0) (sb := 0) (As := [.int (nI 1), .int (nI p)]) (st := []) dX12_digits_90 mX12_fails_v lX12_226 rfl rfl (hN.1) rfl (by decide) (Nat.le_of_ble_eq_true rfl) (Md_fails hN hf9) rfl (sf := fun G2 => []) (fun _ => rfl) (fun G2 hN2 => ?_)
        refine x_iload_n dX12_digits_93 0 rfl ?_
        exact x_iret dX12_digits_94 rfl (xEx_i G2 (by rw [show dgF tp tn p f = flt f 1 p by unfold dgF; rw [he, if_pos (by omega)]]; exact hN2) rfl rfl rfl)
      · refine x_pc (pc' := 82) rfl ?_
        refine x_iload_n dX12_digits_82 0 rfl ?_
        refine x_iload_n dX12_digits_83 3 rfl ?_
        refine x_icmpN_le (tgt := 93) dX12_digits_84 (by decide) (by omega) (by omega) (fun c84 => ?_) (fun c84 => ?_)
        · refine x_iload_n dX12_digits_93 0 rfl ?_
          exact x_iret dX12_digits_94 rfl (xEx_i G1 (by rw [show dgF tp tn p f = f by unfold dgF; rw [he, if_neg (by omega)]]; exact hN) rfl rfl rfl)
        · exact absurd hdv (by omega)
    · have hdq : isDg tp q = true := by unfold dgB at c29; rw [decide_eq_true (show q < tn by omega)] at c29; exact c29
      have hdr := of_decide_eq_true hdq
      refine x_aload_n dX12_digits_32 2 rfl ?_
      refine x_get (v := .int (nI q)) dX12_digits_33 fX12_190 (hN.1) rfl ?_
      refine x_iload_n dX12_digits_36 1 rfl ?_
      refine x_isubN dX12_digits_37 (by omega) ?_
      refine x_iconst dX12_digits_38 ki_5 ?_
      refine x_icmpN_ge (tgt := 57) dX12_digits_39 (by decide) (by omega) (by omega) (fun c39 => ?_) (fun c39 => ?_)
      · refine x_pc (pc' := 57) rfl ?_
        refine x_iload_n dX12_digits_57 0 rfl ?_
        refine x_istore_n (ls' := [(3, .int (nI (dvN tp p (q - p)))), (2, .int (nI p)), (0, .ref y), (1, .int (nI 99999))]) dX12_digits_58 (by decide) rfl ?_
        refine x_aload_n dX12_digits_59 2 rfl ?_
        refine x_dup dX12_digits_60 rfl ?_
        refine x_get (v := .int (nI q)) dX12_digits_61 fX12_190 (hN.1) rfl ?_
        refine x_iconst dX12_digits_64 ki_1 ?_
        refine x_iaddN dX12_digits_65 ?_
        refine x_put (fs' := [.int (F 0), .ref (y + 1), .ref (y + 2), .ref (y + 3), .ref (y + 4), .ref (y + 5), .ref (y + 6), .ref (y + 7), .ref (y + 8), .ref (y + 9), .ref (y + 10), .ref (y + 11), .ref (y + 12), .ref (y + 13), .ref (y + 14), .ref (y + 15), .ref (y + 16), .ref (y + 17), .ref (y + 18), .ref (y + 19), .ref (y + 20), .ref (y + 21), .ref (y + 22), .ref (y + 23), .ref (y + 24), .ref (y + 25), .ref (y + 26), .int (nI tn), .int (nI (q + 1)), .int (nI f), .int (nI sl), .int (F 31), .int (nI en), .int (nI de), .int (nI co), .int (nI op), .int (F 36), .ref (y + 27), .ref (y + 28), .ref (y + 29), .ref (y + 30), .ref (y + 31), .ref (y + 32), .ref (y + 33), .ref (y + 34), .ref (y + 35), .ref (y + 36), .ref (y + 37), .ref (y + 38), .int (F 49), .int (F 50), .int (F 51), .int (F 52), .int (F 53), .ref (y + 39), .ref (y + 40), .ref (y + 41), .int (F 57), .int (F 58), .ref (y + 42), .ref (y + 43), .ref (y + 44), .ref (y + 45), .int (F 63), .int (F 64)]) dX12_digits_66 fX12_190 (hN.1) (Nat.le_of_ble_eq_true rfl) rfl rfl rfl ?_
        refine x_geq (G' := xup _ y (modO y (pF F tn (q + 1) f sl en de co op))) rfl ?_
        have hM1 := hN.fld (pF F tn (q + 1) f sl en de co op)
        refine x_goto (tgt := 25) dX12_digits_69 (by decide) ?_
        have e1 : q + 1 - p = (q - p) + 1 := by omega
        have e2 : dvN tp p (q + 1 - p) = dvN tp p (q - p) := by rw [e1]; show (if q - p < 5 then _ else _) = _; rw [if_neg (by omega)]
        rw [← e2]
        exact ih (q + 1) _ (by omega) (by omega) (fun k hk => (Nat.lt_or_ge k (q - p)).elim (hd k) (fun q1 => by rw [show p + k = q by omega]; exact hdq)) ((runF_t hdq).symm.trans hq) hM1
      · refine x_pc (pc' := 42) rfl ?_
        refine x_bipush dX12_digits_42 kb_10 ?_
        refine x_iload_n dX12_digits_44 0 rfl ?_
        refine x_imulN dX12_digits_45 ?_
        refine x_aload_n dX12_digits_46 2 rfl ?_
        refine x_cV (N := mX12_sign) (d' := 0) (mc := 0) (ms := 0) (cb := 0) (sb := 0) (As := []) (st := [.int (nI (10 * (dvN tp p (q - p))))]) dX12_digits_47 mX12_sign_v lX12_193 rfl rfl (hN.1) rfl (by decide) (Nat.le_of_ble_eq_true rfl) (Md_sign_i hN hT.a htn (by omega)) rfl (st1 := [.int (nI (tp q)), .int (nI (10 * (dvN tp p (q - p))))]) rfl ?_
        refine x_iaddN dX12_digits_50 ?_
        refine x_bipush dX12_digits_51 kb_48 ?_
        refine x_isubN dX12_digits_53 (by omega) ?_
        refine x_goto (tgt := 58) dX12_digits_54 (by decide) ?_
        refine x_istore_n (ls' := [(3, .int (nI (((10 * (dvN tp p (q - p))) + (tp q)) - 48))), (2, .int (nI p)), (0, .ref y), (1, .int (nI 99999))]) dX12_digits_58 (by decide) rfl ?_
        refine x_pc (pc' := 59) rfl ?_
        refine x_aload_n dX12_digits_59 2 rfl ?_
        refine x_dup dX12_digits_60 rfl ?_
        refine x_get (v := .int (nI q)) dX12_digits_61 fX12_190 (hN.1) rfl ?_
        refine x_iconst dX12_digits_64 ki_1 ?_
        refine x_iaddN dX12_digits_65 ?_
        refine x_put (fs' := [.int (F 0), .ref (y + 1), .ref (y + 2), .ref (y + 3), .ref (y + 4), .ref (y + 5), .ref (y + 6), .ref (y + 7), .ref (y + 8), .ref (y + 9), .ref (y + 10), .ref (y + 11), .ref (y + 12), .ref (y + 13), .ref (y + 14), .ref (y + 15), .ref (y + 16), .ref (y + 17), .ref (y + 18), .ref (y + 19), .ref (y + 20), .ref (y + 21), .ref (y + 22), .ref (y + 23), .ref (y + 24), .ref (y + 25), .ref (y + 26), .int (nI tn), .int (nI (q + 1)), .int (nI f), .int (nI sl), .int (F 31), .int (nI en), .int (nI de), .int (nI co), .int (nI op), .int (F 36), .ref (y + 27), .ref (y + 28), .ref (y + 29), .ref (y + 30), .ref (y + 31), .ref (y + 32), .ref (y + 33), .ref (y + 34), .ref (y + 35), .ref (y + 36), .ref (y + 37), .ref (y + 38), .int (F 49), .int (F 50), .int (F 51), .int (F 52), .int (F 53), .ref (y + 39), .ref (y + 40), .ref (y + 41), .int (F 57), .int (F 58), .ref (y + 42), .ref (y + 43), .ref (y + 44), .ref (y + 45), .int (F 63), .int (F 64)]) dX12_digits_66 fX12_190 (hN.1) (Nat.le_of_ble_eq_true rfl) rfl rfl rfl ?_
        refine x_geq (G' := xup _ y (modO y (pF F tn (q + 1) f sl en de co op))) rfl ?_
        have hM2 := hN.fld (pF F tn (q + 1) f sl en de co op)
        refine x_goto (tgt := 25) dX12_digits_69 (by decide) ?_
        have e1 : q + 1 - p = (q - p) + 1 := by omega
        have e2 : dvN tp p (q + 1 - p) = 10 * dvN tp p (q - p) + tp q - 48 := by rw [e1]; show (if q - p < 5 then _ else _) = _; rw [if_pos (by omega), show p + (q - p) = q by omega]
        rw [← e2]
        exact ih (q + 1) _ (by omega) (by omega) (fun k hk => (Nat.lt_or_ge k (q - p)).elim (hd k) (fun q1 => by rw [show p + k = q by omega]; exact hdq)) ((runF_t hdq).symm.trans hq) hM2
theorem Md_digits_n {K : xG} {h y : Nat} {G0 G : xHp} {hl : xHl} {r : xRw} {sc : Nat × Nat × Int32} {A : Nat → Nat → Int32} {F : Nat → Int32} {wa sa : Nat → Int64} {tn p f sl en de co op : Nat} {tp : Nat → Nat} (hT : TpE (A 27) tp) (hlt : ∀ j, tp j < 256) (htn : tn ≤ 400) (hM : MW G0 G y hl r sc A (pF F tn p f sl en de co op) wa sa) (hp9 : p < 100000) (hf9 : f < 1000000) (hdg : dgB tp tn p = false) : xCall K mX12_digits 2 0 0 [.ref y, .int (nI 99999)] h G (mdQ G0 h y (some (.int (nI 0))) hl r sc A (pF F tn p (flt f 0 p) sl en de co op) wa sa) := by
  refine x_entry (by decide) (ls := [(0, .ref y), (1, .int (nI 99999))]) rfl (Nat.le_of_ble_eq_true rfl) ?_
  refine x_aload_n dX12_digits_0 0 rfl ?_
  refine x_cV (N := mX12_isDigit) (d' := 1) (mc := 0) (ms := 0) (cb := 0) (sb := 0) (As := []) (st := []) dX12_digits_1 mX12_isDigit_v lX12_230 rfl rfl (hM.1) rfl (by decide) (Nat.le_of_ble_eq_true rfl) (Md_isDigit hT hlt htn hM hp9) rfl (st1 := [.int (bI (dgB tp tn p))]) rfl ?_
  refine x_ifB_ne (tgt := 18) dX12_digits_4 (by decide) (fun c4 => ?_) (fun c4 => ?_)
  · exact absurd c4 (by rw [hdg]; decide)
  · refine x_aload_n dX12_digits_7 0 rfl ?_
    refine x_iconst dX12_digits_8 ki_0 ?_
    refine x_aload_n dX12_digits_9 0 rfl ?_
    refine x_get (v := .int (nI p)) dX12_digits_10 fX12_190 (hM.1) rfl ?_
    refine x_cVe (N := mX12_fails) (d' := 0) (mc := 0) (ms := 0) (cb := 0) (sb := 0) (As := [.int (nI 0), .int (nI p)]) (st := []) dX12_digits_13 mX12_fails_v lX12_226 rfl rfl (hM.1) rfl (by decide) (Nat.le_of_ble_eq_true rfl) (Md_fails hM hf9) rfl (sf := fun G2 => []) (fun _ => rfl) (fun G2 hN2 => ?_)
    refine x_iconst dX12_digits_16 ki_0 ?_
    refine x_pc (pc' := 17) rfl ?_
    exact x_iret dX12_digits_17 rfl (xEx_i G2 hN2 rfl rfl rfl)
theorem Md_digits_y {K : xG} {h y : Nat} {G0 G : xHp} {hl : xHl} {r : xRw} {sc : Nat × Nat × Int32} {A : Nat → Nat → Int32} {F : Nat → Int32} {wa sa : Nat → Int64} {tn p f sl en de co op : Nat} {tp : Nat → Nat} (hT : TpE (A 27) tp) (hlt : ∀ j, tp j < 256) (htn : tn ≤ 400) (hM : MW G0 G y hl r sc A (pF F tn p f sl en de co op) wa sa) (hf9 : f < 1000000) (hdg : dgB tp tn p = true) : xCall K mX12_digits 2 0 0 [.ref y, .int (nI 99999)] h G (mdQ G0 h y (some (.int (nI (dvN tp p (runF (isDg tp) (tn - p) p - p))))) hl r sc A (pF F tn (runF (isDg tp) (tn - p) p) (dgF tp tn p f) sl en de co op) wa sa) := by
  refine x_entry (by decide) (ls := [(0, .ref y), (1, .int (nI 99999))]) rfl (Nat.le_of_ble_eq_true rfl) ?_
  have hpt : p < tn := by have := ((Bool.and_eq_true _ _).mp hdg).1; exact of_decide_eq_true this
  refine x_aload_n dX12_digits_0 0 rfl ?_
  refine x_cV (N := mX12_isDigit) (d' := 1) (mc := 0) (ms := 0) (cb := 0) (sb := 0) (As := []) (st := []) dX12_digits_1 mX12_isDigit_v lX12_230 rfl rfl (hM.1) rfl (by decide) (Nat.le_of_ble_eq_true rfl) (Md_isDigit hT hlt htn hM (by omega)) rfl (st1 := [.int (bI (dgB tp tn p))]) rfl ?_
  refine x_ifB_ne (tgt := 18) dX12_digits_4 (by decide) (fun c4 => ?_) (fun c4 => ?_)
  · refine x_aload_n dX12_digits_18 0 rfl ?_
    refine x_get (v := .int (nI p)) dX12_digits_19 fX12_190 (hM.1) rfl ?_
    refine x_istore_n (ls' := [(2, .int (nI p)), (0, .ref y), (1, .int (nI 99999))]) dX12_digits_22 (by decide) rfl ?_
    refine x_iconst dX12_digits_23 ki_0 ?_
    refine x_istore_n (ls' := [(3, .int (nI 0)), (2, .int (nI p)), (0, .ref y), (1, .int (nI 99999))]) dX12_digits_24 (by decide) rfl ?_
    have e0 : dvN tp p (p - p) = 0 := by rw [Nat.sub_self]; rfl
    have e3 := Md_digits_loop (K := K) (h := h) hT hlt htn rfl hpt hf9 (tn - p) p G (by omega) (by omega) (fun k hk => by omega) rfl hM
    rw [e0] at e3
    exact e3
  · exact absurd c4 (by rw [hdg]; decide)
