/-! ===== Day ===== -/
def DayAt (G : xHp) (b : Nat) (hl : xHl) (r : xRw) (jd : Nat) (ru : Option Nat) : Prop := G b = some (eO 2 [.ref (b + 1), .ref (b + 9), .ref jd, va_rf ru]) ∧ HallAt G (b + 1) hl ∧ G (b + 9) = some (eI 0 35 r)
theorem DayAt.fr {G G' : xHp} {b : Nat} {hl : xHl} {r : xRw} {jd : Nat} {ru : Option Nat} (h : DayAt G b hl r jd ru) (hf : ∀ a, b ≤ a → a < b + 10 → G' a = G a) : DayAt G' b hl r jd ru :=
  ⟨(hf _ (by omega) (by omega)).trans h.1, h.2.1.fr (fun a h1 h2 => hf a (by omega) (by omega)), (hf _ (by omega) (by omega)).trans h.2.2⟩
theorem DayAt.row {G : xHp} {b : Nat} {hl : xHl} {r : xRw} {jd : Nat} {ru : Option Nat} (h : DayAt G b hl r jd ru) (r' : xRw) : DayAt (xup G (b + 9) (eI 0 35 r')) b hl r' jd ru :=
  ⟨xup_of (by omega) h.1, h.2.1.fr (fun a h1 h2 => xup_ne (by omega)), xup_eq⟩
theorem DayAt.off {G : xHp} {b : Nat} {hl : xHl} {r : xRw} {jd : Nat} {ru : Option Nat} (h : DayAt G b hl r jd ru) {a : Nat} {e : xE} (ha : a < b ∨ b + 10 ≤ a) : DayAt (xup G a e) b hl r jd ru := h.fr (fun c h1 h2 => xup_ne (by omega))
def HallOk (hl : xHl) : Prop := hl 0 2 ≤ 4 ∧ hl 0 3 ≤ 4 ∧ hl 0 4 ≤ 7 ∧ (∀ t, t < hl 0 4 → hl 4 t < hl 0 2 ∧ hl 7 t ≤ 1 ∧ hl 5 t ≤ 400 ∧ hl 6 t ≤ 30) ∧ (∀ j, j < hl 0 3 * 4 → hl 3 j ≤ 60) ∧ (∀ j, j < hl 0 2 → hl 1 j ≤ 9) ∧ hl 0 0 ≤ 300 ∧ hl 0 1 ≤ 300
def layR (r : xRw) (q t : Nat) : xRw := upd (upd (upd r (21 + t) (nI 1)) (5 + q) (-1)) (9 + q) (nI 0)
theorem Day_minuteNow {K : xG} {h b jd : Nat} {G : xHp} {hl : xHl} {r : xRw} {ru : Option Nat} (hD : DayAt G b hl r jd ru) : xCall K mX2_minuteNow 0 0 0 [.ref b] h G (xRet (some (.int (r 0))) h G) := by
  refine x_entry (by decide) (ls := [(0, .ref b)]) rfl (Nat.le_of_ble_eq_true rfl) ?_
  refine x_aload_n dX2_minuteNow_0 0 rfl ?_
  refine x_get dX2_minuteNow_1 fX2_18 (hD.1) rfl ?_
  refine x_iconst dX2_minuteNow_4 ki_0 ?_
  refine x_ialdN dX2_minuteNow_5 (hD.2.2) (by decide) (by decide) ?_
  exact x_iret dX2_minuteNow_6 rfl (xRet_i)
theorem Day_howIs {K : xG} {h b jd : Nat} {G : xHp} {hl : xHl} {r : xRw} {ru : Option Nat} {t : Nat} (hD : DayAt G b hl r jd ru) (ht : t < 7) : xCall K mX2_howIs 0 0 0 [.ref b, .int (nI t)] h G (xRet (some (.int (r (21 + t)))) h G) := by
  refine x_entry (by decide) (ls := [(0, .ref b), (1, .int (nI t))]) rfl (Nat.le_of_ble_eq_true rfl) ?_
  refine x_aload_n dX2_howIs_0 0 rfl ?_
  refine x_get dX2_howIs_1 fX2_18 (hD.1) rfl ?_
  refine x_bipush dX2_howIs_4 kb_21 ?_
  refine x_iload_n dX2_howIs_6 1 rfl ?_
  refine x_iaddN dX2_howIs_7 ?_
  refine x_ialdN dX2_howIs_8 (hD.2.2) (by omega) (by decide) ?_
  exact x_iret dX2_howIs_9 rfl (xRet_i)
theorem Day_isFree {K : xG} {h b jd : Nat} {G : xHp} {hl : xHl} {r : xRw} {ru : Option Nat} {q : Nat} (hD : DayAt G b hl r jd ru) (hq : q < 4) : xCall K mX2_isFree 0 0 0 [.ref b, .int (nI q)] h G (xRet (some (.int (bI (decide (r (5 + q) = -1))))) h G) := by
  refine x_entry (by decide) (ls := [(0, .ref b), (1, .int (nI q))]) rfl (Nat.le_of_ble_eq_true rfl) ?_
  refine x_aload_n dX2_isFree_0 0 rfl ?_
  refine x_get dX2_isFree_1 fX2_18 (hD.1) rfl ?_
  refine x_iconst dX2_isFree_4 ki_5 ?_
  refine x_iload_n dX2_isFree_5 1 rfl ?_
  refine x_iaddN dX2_isFree_6 ?_
  refine x_ialdN dX2_isFree_7 (hD.2.2) (by omega) (by decide) ?_
  refine x_iconst dX2_isFree_8 ki_m1 ?_
  refine x_icmp_ne (x := r (5 + q)) (y := (-1)) (tgt := 16) dX2_isFree_9 (by decide) (fun c9 => ?_) (fun c9 => ?_)
  · refine x_iconst dX2_isFree_16 ki_0 ?_
    refine x_pc (pc' := 17) rfl ?_
    exact x_zret dX2_isFree_17 rfl (by first | rfl | decide | exact bI_nar _) (xRet_e (by rw [decide_eq_false c9]; rfl) rfl)
  · refine x_iconst dX2_isFree_12 ki_1 ?_
    refine x_pc (pc' := 13) rfl ?_
    refine x_goto (tgt := 17) dX2_isFree_13 (by decide) ?_
    exact x_zret dX2_isFree_17 rfl (by first | rfl | decide | exact bI_nar _) (xRet_e (by rw [decide_eq_true c9]; rfl) rfl)
theorem Day_canTake {K : xG} {h b jd : Nat} {G : xHp} {hl : xHl} {r : xRw} {ru : Option Nat} {q t : Nat} (hD : DayAt G b hl r jd ru) (hq : q < 4) (ht : t < 7) (hs : hl 4 t < 4) : xCall K mX2_canTake 1 0 0 [.ref b, .int (nI q), .int (nI t)] h G (xRet (some (.int (bI (canT hl r q t)))) h G) := by
  refine x_entry (by decide) (ls := [(0, .ref b), (1, .int (nI q)), (2, .int (nI t))]) rfl (Nat.le_of_ble_eq_true rfl) ?_
  have hB := hD.2.1.2.2.2.2.2.2.2.2
  refine x_aload_n dX2_canTake_0 0 rfl ?_
  refine x_get dX2_canTake_1 fX2_14 (hD.1) rfl ?_
  refine x_get dX2_canTake_4 fX2_49 (hD.2.1.1) rfl ?_
  refine x_iload_n dX2_canTake_7 2 rfl ?_
  refine x_ialdN dX2_canTake_8 (hD.2.1.2.2.2.2.1) (by omega) (by decide) ?_
  refine x_istore_n (ls' := [(3, .int (nI (hl 4 t))), (0, .ref b), (1, .int (nI q)), (2, .int (nI t))]) dX2_canTake_9 (by decide) rfl ?_
  refine x_aload_n dX2_canTake_10 1 rfl ?_
  refine x_get dX2_canTake_11 fX2_18 (hD.1) rfl ?_
  refine x_bipush dX2_canTake_14 kb_21 ?_
  refine x_pc (pc' := 16) rfl ?_
  refine x_iload_n dX2_canTake_16 3 rfl ?_
  refine x_iaddN dX2_canTake_17 ?_
  refine x_ialdN dX2_canTake_18 (hD.2.2) (by omega) (by decide) ?_
  refine x_iconst dX2_canTake_19 ki_1 ?_
  refine x_icmp_ne (x := r (21 + t)) (y := nI 1) (tgt := 62) dX2_canTake_20 (by decide) (fun c20 => ?_) (fun c20 => ?_)
  · refine x_iconst dX2_canTake_62 ki_0 ?_
    exact x_zret dX2_canTake_63 rfl (by first | rfl | decide | exact bI_nar _) (xRet_e (by rw [show canT hl r q t = false from decide_eq_false (fun ⟨h1, h2, h3⟩ => c20 h1)]; rfl) rfl)
  · refine x_aload_n dX2_canTake_23 1 rfl ?_
    refine x_get dX2_canTake_24 fX2_14 (hD.1) rfl ?_
    refine x_iload_n dX2_canTake_27 2 rfl ?_
    refine x_iload_n dX2_canTake_28 0 rfl ?_
    refine x_cV (N := mX3_skillOf) (d' := 0) (mc := 0) (ms := 0) (cb := 0) (sb := 0) (As := [.int (nI q), .int (nI (hl 4 t))]) (st := []) dX2_canTake_29 mX3_skillOf_v lX2_52 rfl rfl (hD.2.1.1) rfl (by decide) (Nat.le_of_ble_eq_true rfl) (Hall_skillOf hD.2.1 hq hs) rfl (st1 := [.int (nI (hl 3 (q * 4 + hl 4 t)))]) rfl ?_
    refine x_pc (pc' := 32) rfl ?_
    refine x_ifN_le (tgt := 62) dX2_canTake_32 (by decide) (by have := hB 3 (q * 4 + hl 4 t); omega) (fun c32 => ?_) (fun c32 => ?_)
    · refine x_iconst dX2_canTake_62 ki_0 ?_
      exact x_zret dX2_canTake_63 rfl (by first | rfl | decide | exact bI_nar _) (xRet_e (by rw [show canT hl r q t = false from decide_eq_false (fun ⟨h1, h2, h3⟩ => by omega)]; rfl) rfl)
    · refine x_aload_n dX2_canTake_35 1 rfl ?_
      refine x_get dX2_canTake_36 fX2_14 (hD.1) rfl ?_
      refine x_get dX2_canTake_39 fX2_56 (hD.2.1.1) rfl ?_
      refine x_iload_n dX2_canTake_42 3 rfl ?_
      refine x_ialdN dX2_canTake_43 (hD.2.1.2.2.2.2.2.2.2.1) (by omega) (by decide) ?_
      refine x_ifN_eq (tgt := 58) dX2_canTake_44 (by decide) (by have := hB 7 t; omega) (fun c44 => ?_) (fun c44 => ?_)
      · refine x_iconst dX2_canTake_58 ki_1 ?_
        refine x_goto (tgt := 63) dX2_canTake_59 (by decide) ?_
        exact x_zret dX2_canTake_63 rfl (by first | rfl | decide | exact bI_nar _) (xRet_e (by rw [show canT hl r q t = true from decide_eq_true ⟨c20, c32, Or.inl c44⟩]; rfl) rfl)
      · refine x_aload_n dX2_canTake_47 1 rfl ?_
        refine x_get dX2_canTake_48 fX2_18 (hD.1) rfl ?_
        refine x_iconst dX2_canTake_51 ki_1 ?_
        refine x_pc (pc' := 52) rfl ?_
        refine x_iload_n dX2_canTake_52 0 rfl ?_
        refine x_iaddN dX2_canTake_53 ?_
        refine x_ialdN dX2_canTake_54 (hD.2.2) (by omega) (by decide) ?_
        refine x_if_le (tgt := 62) dX2_canTake_55 (by decide) (fun c55 => ?_) (fun c55 => ?_)
        · refine x_iconst dX2_canTake_62 ki_0 ?_
          exact x_zret dX2_canTake_63 rfl (by first | rfl | decide | exact bI_nar _) (xRet_e (by rw [show canT hl r q t = false from decide_eq_false (fun ⟨h1, h2, h3⟩ => h3.elim c44 (fun h4 => Int32.not_le.mpr h4 c55))]; rfl) rfl)
        · refine x_iconst dX2_canTake_58 ki_1 ?_
          refine x_goto (tgt := 63) dX2_canTake_59 (by decide) ?_
          exact x_zret dX2_canTake_63 rfl (by first | rfl | decide | exact bI_nar _) (xRet_e (by rw [show canT hl r q t = true from decide_eq_true ⟨c20, c32, Or.inr (Int32.not_le.mp c55)⟩]; rfl) rfl)
theorem Day_effort {K : xG} {h b jd : Nat} {G : xHp} {hl : xHl} {r : xRw} {ru : Option Nat} {q t : Nat} (hD : DayAt G b hl r jd ru) (hq : q < 4) (ht : t < 7) (hs : hl 4 t < 4) : xCall K mX2_effort 0 0 0 [.ref b, .int (nI q), .int (nI t)] h G (xRet (some (.int (nI (effS hl q t)))) h G) := by
  refine x_entry (by decide) (ls := [(0, .ref b), (1, .int (nI q)), (2, .int (nI t))]) rfl (Nat.le_of_ble_eq_true rfl) ?_
  refine x_aload_n dX2_effort_0 0 rfl ?_
  refine x_get dX2_effort_1 fX2_14 (hD.1) rfl ?_
  refine x_get dX2_effort_4 fX2_49 (hD.2.1.1) rfl ?_
  refine x_iload_n dX2_effort_7 2 rfl ?_
  refine x_ialdN dX2_effort_8 (hD.2.1.2.2.2.2.1) (by omega) (by decide) ?_
  refine x_istore_n (ls' := [(3, .int (nI (hl 4 t))), (0, .ref b), (1, .int (nI q)), (2, .int (nI t))]) dX2_effort_9 (by decide) rfl ?_
  refine x_aload_n dX2_effort_10 1 rfl ?_
  refine x_get dX2_effort_11 fX2_14 (hD.1) rfl ?_
  refine x_get dX2_effort_14 fX2_59 (hD.2.1.1) rfl ?_
  refine x_pc (pc' := 17) rfl ?_
  refine x_iload_n dX2_effort_17 2 rfl ?_
  refine x_iconst dX2_effort_18 ki_4 ?_
  refine x_imulN dX2_effort_19 ?_
  refine x_iload_n dX2_effort_20 0 rfl ?_
  refine x_iaddN dX2_effort_21 ?_
  refine x_ialdN dX2_effort_22 (hD.2.1.2.2.2.1) (by omega) (by decide) ?_
  refine x_aload_n dX2_effort_23 1 rfl ?_
  refine x_get dX2_effort_24 fX2_14 (hD.1) rfl ?_
  refine x_get dX2_effort_27 fX2_62 (hD.2.1.1) rfl ?_
  refine x_iload_n dX2_effort_30 0 rfl ?_
  refine x_pc (pc' := 31) rfl ?_
  refine x_ialdN dX2_effort_31 (hD.2.1.2.1) (by omega) (by decide) ?_
  refine x_iaddN dX2_effort_32 ?_
  exact x_iret dX2_effort_33 rfl (xRet_i)
theorem Day_begin {K : xG} {h b jd : Nat} {G : xHp} {hl : xHl} {r : xRw} {ru : Option Nat} {q t : Nat} (hD : DayAt G b hl r jd ru) (hq : q < 4) (ht : t < 7) (hs : hl 4 t < 4) : xCall K mX2_begin 1 0 0 [.ref b, .int (nI q), .int (nI t)] h G (xRet none h (xup G (b + 9) (eI 0 35 (beginR hl r q t)))) := by
  refine x_entry (by decide) (ls := [(0, .ref b), (1, .int (nI q)), (2, .int (nI t))]) rfl (Nat.le_of_ble_eq_true rfl) ?_
  refine x_aload_n dX2_begin_0 0 rfl ?_
  refine x_get dX2_begin_1 fX2_18 (hD.1) rfl ?_
  refine x_iconst dX2_begin_4 ki_1 ?_
  refine x_aload_n dX2_begin_5 0 rfl ?_
  refine x_get dX2_begin_6 fX2_14 (hD.1) rfl ?_
  refine x_get dX2_begin_9 fX2_49 (hD.2.1.1) rfl ?_
  refine x_iload_n dX2_begin_12 2 rfl ?_
  refine x_ialdN dX2_begin_13 (hD.2.1.2.2.2.2.1) (by omega) (by decide) ?_
  refine x_iaddN dX2_begin_14 ?_
  refine x_pc (pc' := 15) rfl ?_
  refine x_dup2 dX2_begin_15 rfl rfl ?_
  refine x_ialdN dX2_begin_16 (hD.2.2) (by omega) (by decide) ?_
  refine x_aload_n dX2_begin_17 0 rfl ?_
  refine x_get dX2_begin_18 fX2_14 (hD.1) rfl ?_
  refine x_get dX2_begin_21 fX2_56 (hD.2.1.1) rfl ?_
  refine x_iload_n dX2_begin_24 2 rfl ?_
  refine x_ialdN dX2_begin_25 (hD.2.1.2.2.2.2.2.2.2.1) (by omega) (by decide) ?_
  refine x_isub dX2_begin_26 ?_
  refine x_iastN dX2_begin_27 (hD.2.2) (by omega) (by decide) ?_
  refine x_aload_n dX2_begin_28 0 rfl ?_
  refine x_pc (pc' := 29) rfl ?_
  refine x_get dX2_begin_29 fX2_18 (xup_of (by omega) (hD.1)) rfl ?_
  refine x_bipush dX2_begin_32 kb_21 ?_
  refine x_iload_n dX2_begin_34 2 rfl ?_
  refine x_iaddN dX2_begin_35 ?_
  refine x_iconst dX2_begin_36 ki_2 ?_
  refine x_iastN dX2_begin_37 (xup_eq) (by omega) (by decide) ?_
  refine x_geq xup_up ?_
  refine x_aload_n dX2_begin_38 0 rfl ?_
  refine x_get dX2_begin_39 fX2_18 (xup_of (by omega) (hD.1)) rfl ?_
  refine x_iconst dX2_begin_42 ki_5 ?_
  refine x_iload_n dX2_begin_43 1 rfl ?_
  refine x_pc (pc' := 44) rfl ?_
  refine x_iaddN dX2_begin_44 ?_
  refine x_iload_n dX2_begin_45 2 rfl ?_
  refine x_iastN dX2_begin_46 (xup_eq) (by omega) (by decide) ?_
  refine x_geq xup_up ?_
  refine x_aload_n dX2_begin_47 0 rfl ?_
  refine x_get dX2_begin_48 fX2_18 (xup_of (by omega) (hD.1)) rfl ?_
  refine x_bipush dX2_begin_51 kb_9 ?_
  refine x_iload_n dX2_begin_53 1 rfl ?_
  refine x_iaddN dX2_begin_54 ?_
  refine x_aload_n dX2_begin_55 0 rfl ?_
  refine x_iload_n dX2_begin_56 1 rfl ?_
  refine x_pc (pc' := 57) rfl ?_
  refine x_iload_n dX2_begin_57 2 rfl ?_
  refine x_cV (N := mX2_effort) (d' := 0) (mc := 0) (ms := 0) (cb := 0) (sb := 0) (As := [.int (nI q), .int (nI t)]) (st := [.int (nI (9 + q)), .ref (b + 9)]) dX2_begin_58 mX2_effort_v lX2_65 rfl rfl (xup_of (by omega) (hD.1)) rfl (by decide) (Nat.le_of_ble_eq_true rfl) (Day_effort (hD.row _) hq ht hs) rfl (st1 := [.int (nI (effS hl q t)), .int (nI (9 + q)), .ref (b + 9)]) rfl ?_
  refine x_iastN dX2_begin_61 (xup_eq) (by omega) (by decide) ?_
  refine x_geq xup_up ?_
  exact x_vret dX2_begin_62 rfl (xRet_i)
theorem Day_layDown {K : xG} {h b jd : Nat} {G : xHp} {hl : xHl} {r : xRw} {ru : Option Nat} {q t : Nat} (hD : DayAt G b hl r jd ru) (hq : q < 4) (ht : t < 7) (htn : t < hl 0 4) (hm : r (5 + q) = nI t) : xCall K mX2_layDown 1 0 0 [.ref b, .int (nI q)] h G (xRet (some (.int (nI t))) h (xup G (b + 9) (eI 0 35 (layR r q t)))) := by
  refine x_entry (by decide) (ls := [(0, .ref b), (1, .int (nI q))]) rfl (Nat.le_of_ble_eq_true rfl) ?_
  refine x_aload_n dX2_layDown_0 0 rfl ?_
  refine x_get dX2_layDown_1 fX2_18 (hD.1) rfl ?_
  refine x_iconst dX2_layDown_4 ki_5 ?_
  refine x_iload_n dX2_layDown_5 1 rfl ?_
  refine x_iaddN dX2_layDown_6 ?_
  refine x_ialdN dX2_layDown_7 (hD.2.2) (by omega) (by decide) ?_
  refine x_topi (y := nI t) hm ?_
  refine x_istore_n (ls' := [(2, .int (nI t)), (0, .ref b), (1, .int (nI q))]) dX2_layDown_8 (by decide) rfl ?_
  refine x_aload_n dX2_layDown_9 1 rfl ?_
  refine x_get dX2_layDown_10 fX2_14 (hD.1) rfl ?_
  refine x_pc (pc' := 13) rfl ?_
  refine x_iload_n dX2_layDown_13 0 rfl ?_
  refine x_cV (N := mX3_isThing) (d' := 0) (mc := 0) (ms := 0) (cb := 0) (sb := 0) (As := [.int (nI t)]) (st := []) dX2_layDown_14 mX3_isThing_v lX2_68 rfl rfl (hD.2.1.1) rfl (by decide) (Nat.le_of_ble_eq_true rfl) (Hall_isThing hD.2.1) rfl (st1 := [.int (bI (inR (nI t) (hl 0 4)))]) rfl ?_
  refine x_ifB_eq (tgt := 30) dX2_layDown_17 (by decide) (fun c17 => ?_) (fun c17 => ?_)
  · rw [inR_nI (by omega)] at c17
    exact absurd c17 (by simp; omega)
  · refine x_aload_n dX2_layDown_20 1 rfl ?_
    refine x_get dX2_layDown_21 fX2_18 (hD.1) rfl ?_
    refine x_bipush dX2_layDown_24 kb_21 ?_
    refine x_iload_n dX2_layDown_26 0 rfl ?_
    refine x_iaddN dX2_layDown_27 ?_
    refine x_iconst dX2_layDown_28 ki_1 ?_
    refine x_iastN dX2_layDown_29 (hD.2.2) (by omega) (by decide) ?_
    refine x_pc (pc' := 30) rfl ?_
    refine x_aload_n dX2_layDown_30 1 rfl ?_
    refine x_get dX2_layDown_31 fX2_18 (xup_of (by omega) (hD.1)) rfl ?_
    refine x_iconst dX2_layDown_34 ki_5 ?_
    refine x_iload_n dX2_layDown_35 2 rfl ?_
    refine x_iaddN dX2_layDown_36 ?_
    refine x_iconst dX2_layDown_37 ki_m1 ?_
    refine x_iastN dX2_layDown_38 (xup_eq) (by omega) (by decide) ?_
    refine x_geq xup_up ?_
    refine x_aload_n dX2_layDown_39 1 rfl ?_
    refine x_get dX2_layDown_40 fX2_18 (xup_of (by omega) (hD.1)) rfl ?_
    refine x_bipush dX2_layDown_43 kb_9 ?_
    refine x_pc (pc' := 45) rfl ?_
    refine x_iload_n dX2_layDown_45 2 rfl ?_
    refine x_iaddN dX2_layDown_46 ?_
    refine x_iconst dX2_layDown_47 ki_0 ?_
    refine x_iastN dX2_layDown_48 (xup_eq) (by omega) (by decide) ?_
    refine x_geq xup_up ?_
    refine x_iload_n dX2_layDown_49 0 rfl ?_
    exact x_iret dX2_layDown_50 rfl (xRet_i)
theorem Day_saved_loop {K : xG} {h b jd : Nat} {G : xHp} {hl : xHl} {r : xRw} {ru : Option Nat} (hD : DayAt G b hl r jd ru) (hO : HallOk hl) : ∀ (k t : Nat), t + k = hl 0 4 → xV K mX2_saved 0 0 0 h G 4 [(2, .int (nI t)), (1, .int (savF hl r t)), (0, .ref b)] [] (xRet (some (.int (savedS hl r))) h G) := by
  have hB := hD.2.1.2.2.2.2.2.2.2.2
  obtain ⟨o2, o3, o4, -⟩ := hO
  intro k
  induction k with
  | zero =>
    intro t hv
    have hv0 : t = hl 0 4 := by omega
    subst hv0
    refine x_iload_n dX2_saved_4 0 rfl ?_
    refine x_aload_n dX2_saved_5 2 rfl ?_
    refine x_get dX2_saved_6 fX2_14 (hD.1) rfl ?_
    refine x_get dX2_saved_9 fX2_76 (hD.2.1.1) rfl ?_
    refine x_icmpN_ge (tgt := 46) dX2_saved_12 (by decide) (by have := hB 0 2; have := hB 0 3; have := hB 0 4; omega) (by have := hB 0 2; have := hB 0 3; have := hB 0 4; omega) (fun c12 => ?_) (fun c12 => ?_)
    · refine x_iload_n dX2_saved_46 1 rfl ?_
      exact x_iret dX2_saved_47 rfl (xRet_i)
    · exact absurd c12 (by omega)
  | succ k ih =>
    intro t hv
    refine x_iload_n dX2_saved_4 0 rfl ?_
    refine x_aload_n dX2_saved_5 2 rfl ?_
    refine x_get dX2_saved_6 fX2_14 (hD.1) rfl ?_
    refine x_get dX2_saved_9 fX2_76 (hD.2.1.1) rfl ?_
    refine x_icmpN_ge (tgt := 46) dX2_saved_12 (by decide) (by have := hB 0 2; have := hB 0 3; have := hB 0 4; omega) (by have := hB 0 2; have := hB 0 3; have := hB 0 4; omega) (fun c12 => ?_) (fun c12 => ?_)
    · exact absurd c12 (by omega)
    · refine x_aload_n dX2_saved_15 2 rfl ?_
      refine x_get dX2_saved_16 fX2_18 (hD.1) rfl ?_
      refine x_bipush dX2_saved_19 kb_21 ?_
      refine x_iload_n dX2_saved_21 0 rfl ?_
      refine x_pc (pc' := 22) rfl ?_
      refine x_iaddN dX2_saved_22 ?_
      refine x_ialdN dX2_saved_23 (hD.2.2) (by omega) (by decide) ?_
      refine x_iconst dX2_saved_24 ki_3 ?_
      refine x_icmp_ne (x := r (21 + t)) (y := nI 3) (tgt := 40) dX2_saved_25 (by decide) (fun c25 => ?_) (fun c25 => ?_)
      · refine x_iinc (v := nI (t + 1)) (ls' := [(2, .int (nI (t + 1))), (1, .int (savF hl r t)), (0, .ref b)]) dX2_saved_40 0 rfl (nIs _) (by decide) rfl ?_
        refine x_goto (tgt := 4) dX2_saved_43 (by decide) ?_
        rw [show savF hl r t = savF hl r (t + 1) from (if_neg c25).symm]
        exact ih (t + 1) (by omega)
      · refine x_iload_n dX2_saved_28 1 rfl ?_
        refine x_aload_n dX2_saved_29 2 rfl ?_
        refine x_get dX2_saved_30 fX2_14 (hD.1) rfl ?_
        refine x_get dX2_saved_33 fX2_79 (hD.2.1.1) rfl ?_
        refine x_iload_n dX2_saved_36 0 rfl ?_
        refine x_ialdN dX2_saved_37 (hD.2.1.2.2.2.2.2.2.1) (by omega) (by decide) ?_
        refine x_pc (pc' := 38) rfl ?_
        refine x_iadd dX2_saved_38 ?_
        refine x_istore_n (ls' := [(1, .int ((savF hl r t) + (nI (hl 6 t)))), (2, .int (nI t)), (0, .ref b)]) dX2_saved_39 (by decide) rfl ?_
        refine x_iinc (v := nI (t + 1)) (ls' := [(2, .int (nI (t + 1))), (1, .int ((savF hl r t) + (nI (hl 6 t)))), (0, .ref b)]) dX2_saved_40 1 rfl (nIs _) (by decide) rfl ?_
        refine x_goto (tgt := 4) dX2_saved_43 (by decide) ?_
        rw [show savF hl r t + nI (hl 6 t) = savF hl r (t + 1) from (if_pos c25).symm]
        exact ih (t + 1) (by omega)
theorem Day_saved {K : xG} {h b jd : Nat} {G : xHp} {hl : xHl} {r : xRw} {ru : Option Nat} (hD : DayAt G b hl r jd ru) (hO : HallOk hl) : xCall K mX2_saved 0 0 0 [.ref b] h G (xRet (some (.int (savedS hl r))) h G) := by
  refine x_entry (by decide) (ls := [(0, .ref b)]) rfl (Nat.le_of_ble_eq_true rfl) ?_
  refine x_iconst dX2_saved_0 ki_0 ?_
  refine x_istore_n (ls' := [(1, .int (nI 0)), (0, .ref b)]) dX2_saved_1 (by decide) rfl ?_
  refine x_iconst dX2_saved_2 ki_0 ?_
  refine x_istore_n (ls' := [(2, .int (nI 0)), (1, .int (nI 0)), (0, .ref b)]) dX2_saved_3 (by decide) rfl ?_
  exact Day_saved_loop hD hO (hl 0 4) 0 (by omega)
theorem Day_bitsOf_loop {K : xG} {h b jd : Nat} {G : xHp} {hl : xHl} {r : xRw} {ru : Option Nat} {how : Int32} (hD : DayAt G b hl r jd ru) (hO : HallOk hl) : ∀ (k t : Nat), t + k = hl 0 4 → xV K mX2_bitsOf 0 0 0 h G 4 [(3, .int (nI t)), (2, .int (bitsF hl r how t)), (0, .ref b), (1, .int how)] [] (xRet (some (.int (bitsOf hl r how))) h G) := by
  have hB := hD.2.1.2.2.2.2.2.2.2.2
  obtain ⟨o2, o3, o4, -⟩ := hO
  intro k
  induction k with
  | zero =>
    intro t hv
    have hv0 : t = hl 0 4 := by omega
    subst hv0
    refine x_iload_n dX2_bitsOf_4 0 rfl ?_
    refine x_aload_n dX2_bitsOf_5 2 rfl ?_
    refine x_get dX2_bitsOf_6 fX2_14 (hD.1) rfl ?_
    refine x_get dX2_bitsOf_9 fX2_76 (hD.2.1.1) rfl ?_
    refine x_icmpN_ge (tgt := 40) dX2_bitsOf_12 (by decide) (by have := hB 0 2; have := hB 0 3; have := hB 0 4; omega) (by have := hB 0 2; have := hB 0 3; have := hB 0 4; omega) (fun c12 => ?_) (fun c12 => ?_)
    · refine x_iload_n dX2_bitsOf_40 1 rfl ?_
      exact x_iret dX2_bitsOf_41 rfl (xRet_i)
    · exact absurd c12 (by omega)
  | succ k ih =>
    intro t hv
    refine x_iload_n dX2_bitsOf_4 0 rfl ?_
    refine x_aload_n dX2_bitsOf_5 2 rfl ?_
    refine x_get dX2_bitsOf_6 fX2_14 (hD.1) rfl ?_
    refine x_get dX2_bitsOf_9 fX2_76 (hD.2.1.1) rfl ?_
    refine x_icmpN_ge (tgt := 40) dX2_bitsOf_12 (by decide) (by have := hB 0 2; have := hB 0 3; have := hB 0 4; omega) (by have := hB 0 2; have := hB 0 3; have := hB 0 4; omega) (fun c12 => ?_) (fun c12 => ?_)
    · exact absurd c12 (by omega)
    · refine x_aload_n dX2_bitsOf_15 2 rfl ?_
      refine x_get dX2_bitsOf_16 fX2_18 (hD.1) rfl ?_
      refine x_bipush dX2_bitsOf_19 kb_21 ?_
      refine x_iload_n dX2_bitsOf_21 0 rfl ?_
      refine x_pc (pc' := 22) rfl ?_
      refine x_iaddN dX2_bitsOf_22 ?_
      refine x_ialdN dX2_bitsOf_23 (hD.2.2) (by omega) (by decide) ?_
      refine x_iload_n dX2_bitsOf_24 3 rfl ?_
      refine x_icmp_ne (x := r (21 + t)) (y := how) (tgt := 34) dX2_bitsOf_25 (by decide) (fun c25 => ?_) (fun c25 => ?_)
      · refine x_iinc (v := nI (t + 1)) (ls' := [(3, .int (nI (t + 1))), (2, .int (bitsF hl r how t)), (0, .ref b), (1, .int how)]) dX2_bitsOf_34 0 rfl (nIs _) (by decide) rfl ?_
        refine x_goto (tgt := 4) dX2_bitsOf_37 (by decide) ?_
        rw [show bitsF hl r how t = bitsF hl r how (t + 1) from (if_neg c25).symm]
        exact ih (t + 1) (by omega)
      · refine x_iload_n dX2_bitsOf_28 1 rfl ?_
        refine x_iconst dX2_bitsOf_29 ki_1 ?_
        refine x_iload_n dX2_bitsOf_30 0 rfl ?_
        refine x_ishl dX2_bitsOf_31 ?_
        refine x_ior dX2_bitsOf_32 ?_
        refine x_istore_n (ls' := [(2, .int ((bitsF hl r how t) ||| ((nI 1) <<< ((nI t) &&& 31)))), (3, .int (nI t)), (0, .ref b), (1, .int how)]) dX2_bitsOf_33 (by decide) rfl ?_
        refine x_pc (pc' := 34) rfl ?_
        refine x_iinc (v := nI (t + 1)) (ls' := [(3, .int (nI (t + 1))), (2, .int ((bitsF hl r how t) ||| ((nI 1) <<< ((nI t) &&& 31)))), (0, .ref b), (1, .int how)]) dX2_bitsOf_34 1 rfl (nIs _) (by decide) rfl ?_
        refine x_goto (tgt := 4) dX2_bitsOf_37 (by decide) ?_
        rw [show bitsF hl r how t ||| (nI 1 <<< (nI t &&& 31)) = bitsF hl r how (t + 1) from (if_pos c25).symm]
        exact ih (t + 1) (by omega)
theorem Day_bitsOf {K : xG} {h b jd : Nat} {G : xHp} {hl : xHl} {r : xRw} {ru : Option Nat} {how : Int32} (hD : DayAt G b hl r jd ru) (hO : HallOk hl) : xCall K mX2_bitsOf 0 0 0 [.ref b, .int how] h G (xRet (some (.int (bitsOf hl r how))) h G) := by
  refine x_entry (by decide) (ls := [(0, .ref b), (1, .int how)]) rfl (Nat.le_of_ble_eq_true rfl) ?_
  refine x_iconst dX2_bitsOf_0 ki_0 ?_
  refine x_istore_n (ls' := [(2, .int (nI 0)), (0, .ref b), (1, .int how)]) dX2_bitsOf_1 (by decide) rfl ?_
  refine x_iconst dX2_bitsOf_2 ki_0 ?_
  refine x_istore_n (ls' := [(3, .int (nI 0)), (2, .int (nI 0)), (0, .ref b), (1, .int how)]) dX2_bitsOf_3 (by decide) rfl ?_
  exact Day_bitsOf_loop hD hO (hl 0 4) 0 (by omega)
theorem Day_atCoffee_loop {K : xG} {h b jd : Nat} {G : xHp} {hl : xHl} {r : xRw} {ru : Option Nat} (hD : DayAt G b hl r jd ru) (hO : HallOk hl) : ∀ (k t : Nat), t + k = hl 0 3 → xV K mX2_atCoffee 0 0 0 h G 4 [(2, .int (nI t)), (1, .int (nI (cntF (fun q => decide (0 < r (13 + q))) t))), (0, .ref b)] [] (xRet (some (.int (nI (cntF (fun q => decide (0 < r (13 + q))) (hl 0 3))))) h G) := by
  have hB := hD.2.1.2.2.2.2.2.2.2.2
  obtain ⟨o2, o3, o4, -⟩ := hO
  intro k
  induction k with
  | zero =>
    intro t hv
    have hv0 : t = hl 0 3 := by omega
    subst hv0
    refine x_iload_n dX2_atCoffee_4 0 rfl ?_
    refine x_aload_n dX2_atCoffee_5 2 rfl ?_
    refine x_get dX2_atCoffee_6 fX2_14 (hD.1) rfl ?_
    refine x_get dX2_atCoffee_9 fX2_72 (hD.2.1.1) rfl ?_
    refine x_icmpN_ge (tgt := 36) dX2_atCoffee_12 (by decide) (by have := hB 0 2; have := hB 0 3; have := hB 0 4; omega) (by have := hB 0 2; have := hB 0 3; have := hB 0 4; omega) (fun c12 => ?_) (fun c12 => ?_)
    · refine x_iload_n dX2_atCoffee_36 1 rfl ?_
      exact x_iret dX2_atCoffee_37 rfl (xRet_i)
    · exact absurd c12 (by omega)
  | succ k ih =>
    intro t hv
    refine x_iload_n dX2_atCoffee_4 0 rfl ?_
    refine x_aload_n dX2_atCoffee_5 2 rfl ?_
    refine x_get dX2_atCoffee_6 fX2_14 (hD.1) rfl ?_
    refine x_get dX2_atCoffee_9 fX2_72 (hD.2.1.1) rfl ?_
    refine x_icmpN_ge (tgt := 36) dX2_atCoffee_12 (by decide) (by have := hB 0 2; have := hB 0 3; have := hB 0 4; omega) (by have := hB 0 2; have := hB 0 3; have := hB 0 4; omega) (fun c12 => ?_) (fun c12 => ?_)
    · exact absurd c12 (by omega)
    · refine x_aload_n dX2_atCoffee_15 2 rfl ?_
      refine x_get dX2_atCoffee_16 fX2_18 (hD.1) rfl ?_
      refine x_bipush dX2_atCoffee_19 kb_13 ?_
      refine x_iload_n dX2_atCoffee_21 0 rfl ?_
      refine x_pc (pc' := 22) rfl ?_
      refine x_iaddN dX2_atCoffee_22 ?_
      refine x_ialdN dX2_atCoffee_23 (hD.2.2) (by omega) (by decide) ?_
      refine x_if_le (tgt := 30) dX2_atCoffee_24 (by decide) (fun c24 => ?_) (fun c24 => ?_)
      · refine x_iinc (v := nI (t + 1)) (ls' := [(2, .int (nI (t + 1))), (1, .int (nI (cntF (fun q => decide (0 < r (13 + q))) t))), (0, .ref b)]) dX2_atCoffee_30 0 rfl (nIs _) (by decide) rfl ?_
        refine x_goto (tgt := 4) dX2_atCoffee_33 (by decide) ?_
        rw [show cntF (fun q => decide (0 < r (13 + q))) t = cntF (fun q => decide (0 < r (13 + q))) (t + 1) from by simp [cntF, Int32.not_lt.mpr c24]]
        exact ih (t + 1) (by omega)
      · refine x_iinc (v := nI (cntF (fun q => decide (0 < r (13 + q))) t + 1)) (ls' := [(1, .int (nI (cntF (fun q => decide (0 < r (13 + q))) t + 1))), (2, .int (nI t)), (0, .ref b)]) dX2_atCoffee_27 1 rfl (nIs _) (by decide) rfl ?_
        refine x_iinc (v := nI (t + 1)) (ls' := [(2, .int (nI (t + 1))), (1, .int (nI (cntF (fun q => decide (0 < r (13 + q))) t + 1))), (0, .ref b)]) dX2_atCoffee_30 1 rfl (nIs _) (by decide) rfl ?_
        refine x_goto (tgt := 4) dX2_atCoffee_33 (by decide) ?_
        rw [show cntF (fun q => decide (0 < r (13 + q))) t + 1 = cntF (fun q => decide (0 < r (13 + q))) (t + 1) from by simp [cntF, Int32.not_le.mp c24]]
        exact ih (t + 1) (by omega)
theorem Day_atCoffee {K : xG} {h b jd : Nat} {G : xHp} {hl : xHl} {r : xRw} {ru : Option Nat} (hD : DayAt G b hl r jd ru) (hO : HallOk hl) : xCall K mX2_atCoffee 0 0 0 [.ref b] h G (xRet (some (.int (nI (cntF (fun q => decide (0 < r (13 + q))) (hl 0 3))))) h G) := by
  refine x_entry (by decide) (ls := [(0, .ref b)]) rfl (Nat.le_of_ble_eq_true rfl) ?_
  refine x_iconst dX2_atCoffee_0 ki_0 ?_
  refine x_istore_n (ls' := [(1, .int (nI 0)), (0, .ref b)]) dX2_atCoffee_1 (by decide) rfl ?_
  refine x_iconst dX2_atCoffee_2 ki_0 ?_
  refine x_istore_n (ls' := [(2, .int (nI 0)), (1, .int (nI 0)), (0, .ref b)]) dX2_atCoffee_3 (by decide) rfl ?_
  exact Day_atCoffee_loop hD hO (hl 0 3) 0 (by omega)
def awF (hl : xHl) (r : xRw) : Nat → Bool
  | 0 => false
  | t + 1 => awF hl r t || decide (cgV hl (r 0) t (r (21 + t)) = nI 1)
theorem awF_s (hl : xHl) (r : xRw) (t : Nat) : awF hl r (t + 1) = (awF hl r t || decide (cgV hl (r 0) t (r (21 + t)) = nI 1)) := rfl
theorem comeGo_0 (hl : xHl) (r : xRw) : comeGo hl r 0 = r := by
  funext j
  simp only [comeGo]
  rw [if_neg (by omega)]
theorem comeGo_at (hl : xHl) (r : xRw) (t : Nat) : comeGo hl r t (21 + t) = r (21 + t) := by
  simp only [comeGo]
  rw [if_neg (by omega)]
theorem comeGo_s (hl : xHl) (r : xRw) (t : Nat) {v : Int32} (h : cgV hl (r 0) t (r (21 + t)) = v) : upd (comeGo hl r t) (21 + t) v = comeGo hl r (t + 1) := by
  funext j
  simp only [upd, comeGo]
  by_cases h1 : j = 21 + t
  · subst h1
    rw [if_pos rfl, if_pos (by omega), show 21 + t - 21 = t by omega, h]
  · rw [if_neg h1]
    by_cases h2 : 21 ≤ j ∧ j < 21 + t
    · rw [if_pos h2, if_pos (by omega)]
    · rw [if_neg h2, if_neg (by omega)]
theorem upd_self {f : Nat → Int32} {k : Nat} : upd f k (f k) = f := by
  funext j
  by_cases h : j = k <;> simp [upd, h]
theorem upd_upd {f : Nat → Int32} {k : Nat} {x y : Int32} : upd (upd f k x) k y = upd f k y := by
  funext j
  by_cases h : j = k <;> simp [upd, h]
theorem comeGo_k (hl : xHl) (r : xRw) (t : Nat) (h : cgV hl (r 0) t (r (21 + t)) = r (21 + t)) : comeGo hl r t = comeGo hl r (t + 1) := by
  rw [← comeGo_s hl r t h, ← comeGo_at hl r t, upd_self]
section CG
variable {hl : xHl} {mi v : Int32} {t : Nat}
theorem cgV_a (h0 : v = 0) (hc : nI (hl 5 t) = mi) (hg : nI (hl 0 1) ≤ mi - nI (hl 5 t) ∨ nI (hl 0 0) ≤ mi) : cgV hl mi t v = nI 4 := by
  have e : (if v = 0 ∧ nI (hl 5 t) = mi then (1 : Int32) else v) = 1 := if_pos ⟨h0, hc⟩
  simp only [cgV]; rw [if_pos e, if_pos hg]; rfl
theorem cgV_b (h0 : v = 0) (hc : nI (hl 5 t) = mi) (hg : ¬ (nI (hl 0 1) ≤ mi - nI (hl 5 t) ∨ nI (hl 0 0) ≤ mi)) : cgV hl mi t v = nI 1 := by
  have e : (if v = 0 ∧ nI (hl 5 t) = mi then (1 : Int32) else v) = 1 := if_pos ⟨h0, hc⟩
  simp only [cgV]; rw [if_pos e, if_neg hg]; rfl
theorem cgV_w (h1 : v = nI 1) : (if v = 0 ∧ nI (hl 5 t) = mi then (1 : Int32) else v) = 1 := by
  subst h1; split <;> rfl
theorem cgV_c (h1 : v = nI 1) (hg : nI (hl 0 1) ≤ mi - nI (hl 5 t) ∨ nI (hl 0 0) ≤ mi) : cgV hl mi t v = nI 4 := by
  simp only [cgV]; rw [if_pos (cgV_w h1), if_pos hg]; rfl
theorem cgV_d (h1 : v = nI 1) (hg : ¬ (nI (hl 0 1) ≤ mi - nI (hl 5 t) ∨ nI (hl 0 0) ≤ mi)) : cgV hl mi t v = nI 1 := by
  simp only [cgV]; rw [if_pos (cgV_w h1), if_neg hg]; rfl
theorem cgV_e (h : ¬ v = nI 1) (h' : ¬ (v = 0 ∧ nI (hl 5 t) = mi)) : cgV hl mi t v = v := by
  simp only [cgV]; rw [if_neg h', if_neg (show ¬ v = (1 : Int32) from h)]
end CG
theorem Day_comeAndGo_loop {K : xG} {h b jd : Nat} {G : xHp} {hl : xHl} {r : xRw} {ru : Option Nat} (hD : DayAt G b hl r jd ru) (hO : HallOk hl) : ∀ (k t : Nat), t + k = hl 0 4 → xV K mX2_comeAndGo 0 0 0 h (xup G (b + 9) (eI 0 35 (comeGo hl r t))) 11 [(3, .int (nI t)), (2, .int (bI (awF hl r t))), (1, .int (r 0)), (0, .ref b)] [] (xRet (some (.int (bI (awF hl r (hl 0 4))))) h (xup G (b + 9) (eI 0 35 (comeGo hl r (hl 0 4))))) := by
  have hB := hD.2.1.2.2.2.2.2.2.2.2
  obtain ⟨o2, o3, o4, -⟩ := hO
  intro k
  induction k with
  | zero =>
    intro t hv
    have hv0 : t = hl 0 4 := by omega
    subst hv0
    refine x_iload_n dX2_comeAndGo_11 0 rfl ?_
    refine x_aload_n dX2_comeAndGo_12 3 rfl ?_
    refine x_get dX2_comeAndGo_13 fX2_14 (xup_of (by omega) (hD.1)) rfl ?_
    refine x_get dX2_comeAndGo_16 fX2_76 (xup_of (by omega) (hD.2.1.1)) rfl ?_
    refine x_icmpN_ge (tgt := 149) dX2_comeAndGo_19 (by decide) (by have := hB 0 2; have := hB 0 3; have := hB 0 4; omega) (by have := hB 0 2; have := hB 0 3; have := hB 0 4; omega) (fun c19 => ?_) (fun c19 => ?_)
    · refine x_iload_n dX2_comeAndGo_149 1 rfl ?_
      exact x_zret dX2_comeAndGo_150 rfl (by first | rfl | decide | exact bI_nar _) (xRet_i)
    · exact absurd c19 (by omega)
  | succ k ih =>
    intro t hv
    refine x_iload_n dX2_comeAndGo_11 0 rfl ?_
    refine x_aload_n dX2_comeAndGo_12 3 rfl ?_
    refine x_get dX2_comeAndGo_13 fX2_14 (xup_of (by omega) (hD.1)) rfl ?_
    refine x_get dX2_comeAndGo_16 fX2_76 (xup_of (by omega) (hD.2.1.1)) rfl ?_
    refine x_icmpN_ge (tgt := 149) dX2_comeAndGo_19 (by decide) (by have := hB 0 2; have := hB 0 3; have := hB 0 4; omega) (by have := hB 0 2; have := hB 0 3; have := hB 0 4; omega) (fun c19 => ?_) (fun c19 => ?_)
    · exact absurd c19 (by omega)
    · refine x_aload_n dX2_comeAndGo_22 3 rfl ?_
      refine x_get dX2_comeAndGo_23 fX2_18 (xup_of (by omega) (hD.1)) rfl ?_
      refine x_bipush dX2_comeAndGo_26 kb_21 ?_
      refine x_iload_n dX2_comeAndGo_28 0 rfl ?_
      refine x_pc (pc' := 29) rfl ?_
      refine x_iaddN dX2_comeAndGo_29 ?_
      refine x_ialdN dX2_comeAndGo_30 (xup_eq) (by omega) (by decide) ?_
      refine x_topi (comeGo_at hl r t) ?_
      refine x_if_ne (tgt := 57) dX2_comeAndGo_31 (by decide) (fun c31 => ?_) (fun c31 => ?_)
      · refine x_aload_n dX2_comeAndGo_57 3 rfl ?_
        refine x_get dX2_comeAndGo_58 fX2_18 (xup_of (by omega) (hD.1)) rfl ?_
        refine x_bipush dX2_comeAndGo_61 kb_21 ?_
        refine x_iload_n dX2_comeAndGo_63 0 rfl ?_
        refine x_iaddN dX2_comeAndGo_64 ?_
        refine x_ialdN dX2_comeAndGo_65 (xup_eq) (by omega) (by decide) ?_
        refine x_topi (comeGo_at hl r t) ?_
        refine x_iconst dX2_comeAndGo_66 ki_1 ?_
        refine x_pc (pc' := 67) rfl ?_
        refine x_icmp_ne (x := r (21 + t)) (y := nI 1) (tgt := 143) dX2_comeAndGo_67 (by decide) (fun c67 => ?_) (fun c67 => ?_)
        · refine x_iinc (v := nI (t + 1)) (ls' := [(3, .int (nI (t + 1))), (2, .int (bI (awF hl r t))), (1, .int (r 0)), (0, .ref b)]) dX2_comeAndGo_143 0 rfl (nIs _) (by decide) rfl ?_
          refine x_goto (tgt := 11) dX2_comeAndGo_146 (by decide) ?_
          have hcg : cgV hl (r 0) t (r (21 + t)) = r (21 + t) := cgV_e c67 (fun q => c31 q.1)
          have haw : bI (awF hl r (t + 1)) = bI (awF hl r t) := by rw [awF_s, hcg, decide_eq_false c67, Bool.or_false]
          have hGG := comeGo_k hl r t hcg
          refine x_leq (ls' := [(3, .int (nI (t + 1))), (2, .int (bI (awF hl r (t + 1)))), (1, .int (r 0)), (0, .ref b)]) (by rw [haw]) ?_
          refine x_geq (congrArg (fun f => xup G (b + 9) (eI 0 35 f)) hGG) ?_
          exact ih (t + 1) (by omega)
        · refine x_iload_n dX2_comeAndGo_70 2 rfl ?_
          refine x_aload_n dX2_comeAndGo_71 3 rfl ?_
          refine x_get dX2_comeAndGo_72 fX2_14 (xup_of (by omega) (hD.1)) rfl ?_
          refine x_get dX2_comeAndGo_75 fX2_100 (xup_of (by omega) (hD.2.1.1)) rfl ?_
          refine x_iload_n dX2_comeAndGo_78 0 rfl ?_
          refine x_ialdN dX2_comeAndGo_79 (xup_of (by omega) (hD.2.1.2.2.2.2.2.1)) (by omega) (by decide) ?_
          refine x_isub dX2_comeAndGo_80 ?_
          refine x_aload_n dX2_comeAndGo_81 3 rfl ?_
          refine x_get dX2_comeAndGo_82 fX2_14 (xup_of (by omega) (hD.1)) rfl ?_
          refine x_pc (pc' := 85) rfl ?_
          refine x_get dX2_comeAndGo_85 fX2_103 (xup_of (by omega) (hD.2.1.1)) rfl ?_
          refine x_icmp_ge (x := (r 0) - (nI (hl 5 t))) (y := nI (hl 0 1)) (tgt := 102) dX2_comeAndGo_88 (by decide) (fun c88 => ?_) (fun c88 => ?_)
          · refine x_iconst dX2_comeAndGo_102 ki_1 ?_
            refine x_goto (tgt := 107) dX2_comeAndGo_103 (by decide) ?_
            refine x_istore (ls' := [(4, .int (nI 1)), (3, .int (nI t)), (2, .int (bI (awF hl r t))), (1, .int (r 0)), (0, .ref b)]) dX2_comeAndGo_107 (by decide) rfl ?_
            refine x_aload_n dX2_comeAndGo_109 4 rfl ?_
            refine x_get dX2_comeAndGo_110 fX2_18 (xup_of (by omega) (hD.1)) rfl ?_
            refine x_bipush dX2_comeAndGo_113 kb_21 ?_
            refine x_iload_n dX2_comeAndGo_115 1 rfl ?_
            refine x_iaddN dX2_comeAndGo_116 ?_
            refine x_pc (pc' := 117) rfl ?_
            refine x_iload dX2_comeAndGo_117 0 rfl ?_
            refine x_ifN_eq (tgt := 126) dX2_comeAndGo_119 (by decide) (by have := hB 0 2; have := hB 0 3; have := hB 0 4; omega) (fun c119 => ?_) (fun c119 => ?_)
            · exact absurd c119 (by decide)
            · refine x_iconst dX2_comeAndGo_122 ki_4 ?_
              refine x_goto (tgt := 127) dX2_comeAndGo_123 (by decide) ?_
              refine x_iastN dX2_comeAndGo_127 (xup_eq) (by omega) (by decide) ?_
              refine x_geq xup_up ?_
              refine x_iload_n dX2_comeAndGo_128 2 rfl ?_
              refine x_ifB_ne (tgt := 137) dX2_comeAndGo_129 (by decide) (fun c129 => ?_) (fun c129 => ?_)
              · refine x_iconst dX2_comeAndGo_137 ki_1 ?_
                refine x_goto (tgt := 142) dX2_comeAndGo_138 (by decide) ?_
                refine x_istore_n (ls' := [(2, .int (nI 1)), (4, .int (nI 1)), (3, .int (nI t)), (1, .int (r 0)), (0, .ref b)]) dX2_comeAndGo_142 (by decide) rfl ?_
                refine x_pc (pc' := 143) rfl ?_
                refine x_iinc (v := nI (t + 1)) (ls' := [(3, .int (nI (t + 1))), (2, .int (nI 1)), (4, .int (nI 1)), (1, .int (r 0)), (0, .ref b)]) dX2_comeAndGo_143 2 rfl (nIs _) (by decide) rfl ?_
                refine x_goto (tgt := 11) dX2_comeAndGo_146 (by decide) ?_
                refine x_perm (ls' := [(3, .int (nI (t + 1))), (2, .int (nI 1)), (1, .int (r 0)), (0, .ref b)]) [0, 1, 3, 4] rfl ?_
                have hcg : cgV hl (r 0) t (r (21 + t)) = nI 4 := cgV_c c67 (Or.inl c88)
                have haw : bI (awF hl r (t + 1)) = nI 1 := by rw [awF_s, hcg, show decide (nI 4 = nI 1) = false from rfl, c129]; rfl
                have hGG := comeGo_s hl r t hcg
                refine x_leq (ls' := [(3, .int (nI (t + 1))), (2, .int (bI (awF hl r (t + 1)))), (1, .int (r 0)), (0, .ref b)]) (by rw [haw]) ?_
                refine x_geq (congrArg (fun f => xup G (b + 9) (eI 0 35 f)) hGG) ?_
                exact ih (t + 1) (by omega)
              · refine x_iload dX2_comeAndGo_132 0 rfl ?_
                refine x_ifN_ne (tgt := 141) dX2_comeAndGo_134 (by decide) (by have := hB 0 2; have := hB 0 3; have := hB 0 4; omega) (fun c134 => ?_) (fun c134 => ?_)
                · refine x_iconst dX2_comeAndGo_141 ki_0 ?_
                  refine x_pc (pc' := 142) rfl ?_
                  refine x_istore_n (ls' := [(2, .int (nI 0)), (4, .int (nI 1)), (3, .int (nI t)), (1, .int (r 0)), (0, .ref b)]) dX2_comeAndGo_142 (by decide) rfl ?_
                  refine x_iinc (v := nI (t + 1)) (ls' := [(3, .int (nI (t + 1))), (2, .int (nI 0)), (4, .int (nI 1)), (1, .int (r 0)), (0, .ref b)]) dX2_comeAndGo_143 2 rfl (nIs _) (by decide) rfl ?_
                  refine x_goto (tgt := 11) dX2_comeAndGo_146 (by decide) ?_
                  refine x_perm (ls' := [(3, .int (nI (t + 1))), (2, .int (nI 0)), (1, .int (r 0)), (0, .ref b)]) [0, 1, 3, 4] rfl ?_
                  have hcg : cgV hl (r 0) t (r (21 + t)) = nI 4 := cgV_c c67 (Or.inl c88)
                  have haw : bI (awF hl r (t + 1)) = nI 0 := by rw [awF_s, hcg, show decide (nI 4 = nI 1) = false from rfl, c129]; rfl
                  have hGG := comeGo_s hl r t hcg
                  refine x_leq (ls' := [(3, .int (nI (t + 1))), (2, .int (bI (awF hl r (t + 1)))), (1, .int (r 0)), (0, .ref b)]) (by rw [haw]) ?_
                  refine x_geq (congrArg (fun f => xup G (b + 9) (eI 0 35 f)) hGG) ?_
                  exact ih (t + 1) (by omega)
                · exact absurd c134 (by decide)
          · refine x_iload_n dX2_comeAndGo_91 2 rfl ?_
            refine x_aload_n dX2_comeAndGo_92 3 rfl ?_
            refine x_get dX2_comeAndGo_93 fX2_14 (xup_of (by omega) (hD.1)) rfl ?_
            refine x_get dX2_comeAndGo_96 fX2_106 (xup_of (by omega) (hD.2.1.1)) rfl ?_
            refine x_icmp_lt (x := r 0) (y := nI (hl 0 0)) (tgt := 106) dX2_comeAndGo_99 (by decide) (fun c99 => ?_) (fun c99 => ?_)
            · refine x_iconst dX2_comeAndGo_106 ki_0 ?_
              refine x_istore (ls' := [(4, .int (nI 0)), (3, .int (nI t)), (2, .int (bI (awF hl r t))), (1, .int (r 0)), (0, .ref b)]) dX2_comeAndGo_107 (by decide) rfl ?_
              refine x_aload_n dX2_comeAndGo_109 4 rfl ?_
              refine x_pc (pc' := 110) rfl ?_
              refine x_get dX2_comeAndGo_110 fX2_18 (xup_of (by omega) (hD.1)) rfl ?_
              refine x_bipush dX2_comeAndGo_113 kb_21 ?_
              refine x_iload_n dX2_comeAndGo_115 1 rfl ?_
              refine x_iaddN dX2_comeAndGo_116 ?_
              refine x_iload dX2_comeAndGo_117 0 rfl ?_
              refine x_ifN_eq (tgt := 126) dX2_comeAndGo_119 (by decide) (by have := hB 0 2; have := hB 0 3; have := hB 0 4; omega) (fun c119 => ?_) (fun c119 => ?_)
              · refine x_iconst dX2_comeAndGo_126 ki_1 ?_
                refine x_iastN dX2_comeAndGo_127 (xup_eq) (by omega) (by decide) ?_
                refine x_geq xup_up ?_
                refine x_iload_n dX2_comeAndGo_128 2 rfl ?_
                refine x_ifB_ne (tgt := 137) dX2_comeAndGo_129 (by decide) (fun c129 => ?_) (fun c129 => ?_)
                · refine x_pc (pc' := 137) rfl ?_
                  refine x_iconst dX2_comeAndGo_137 ki_1 ?_
                  refine x_goto (tgt := 142) dX2_comeAndGo_138 (by decide) ?_
                  refine x_istore_n (ls' := [(2, .int (nI 1)), (4, .int (nI 0)), (3, .int (nI t)), (1, .int (r 0)), (0, .ref b)]) dX2_comeAndGo_142 (by decide) rfl ?_
                  refine x_iinc (v := nI (t + 1)) (ls' := [(3, .int (nI (t + 1))), (2, .int (nI 1)), (4, .int (nI 0)), (1, .int (r 0)), (0, .ref b)]) dX2_comeAndGo_143 2 rfl (nIs _) (by decide) rfl ?_
                  refine x_goto (tgt := 11) dX2_comeAndGo_146 (by decide) ?_
                  refine x_perm (ls' := [(3, .int (nI (t + 1))), (2, .int (nI 1)), (1, .int (r 0)), (0, .ref b)]) [0, 1, 3, 4] rfl ?_
                  have hcg : cgV hl (r 0) t (r (21 + t)) = nI 1 := cgV_d c67 (fun q => q.elim c88 (Int32.not_le.mpr c99))
                  have haw : bI (awF hl r (t + 1)) = nI 1 := by rw [awF_s, hcg, show decide (nI 1 = nI 1) = true from rfl, Bool.or_true]; rfl
                  have hGG := comeGo_s hl r t hcg
                  refine x_leq (ls' := [(3, .int (nI (t + 1))), (2, .int (bI (awF hl r (t + 1)))), (1, .int (r 0)), (0, .ref b)]) (by rw [haw]) ?_
                  refine x_geq (congrArg (fun f => xup G (b + 9) (eI 0 35 f)) hGG) ?_
                  exact ih (t + 1) (by omega)
                · refine x_pc (pc' := 132) rfl ?_
                  refine x_iload dX2_comeAndGo_132 0 rfl ?_
                  refine x_ifN_ne (tgt := 141) dX2_comeAndGo_134 (by decide) (by have := hB 0 2; have := hB 0 3; have := hB 0 4; omega) (fun c134 => ?_) (fun c134 => ?_)
                  · exact absurd c134 (by decide)
                  · refine x_iconst dX2_comeAndGo_137 ki_1 ?_
                    refine x_goto (tgt := 142) dX2_comeAndGo_138 (by decide) ?_
                    refine x_istore_n (ls' := [(2, .int (nI 1)), (4, .int (nI 0)), (3, .int (nI t)), (1, .int (r 0)), (0, .ref b)]) dX2_comeAndGo_142 (by decide) rfl ?_
                    refine x_iinc (v := nI (t + 1)) (ls' := [(3, .int (nI (t + 1))), (2, .int (nI 1)), (4, .int (nI 0)), (1, .int (r 0)), (0, .ref b)]) dX2_comeAndGo_143 2 rfl (nIs _) (by decide) rfl ?_
                    refine x_goto (tgt := 11) dX2_comeAndGo_146 (by decide) ?_
                    refine x_perm (ls' := [(3, .int (nI (t + 1))), (2, .int (nI 1)), (1, .int (r 0)), (0, .ref b)]) [0, 1, 3, 4] rfl ?_
                    have hcg : cgV hl (r 0) t (r (21 + t)) = nI 1 := cgV_d c67 (fun q => q.elim c88 (Int32.not_le.mpr c99))
                    have haw : bI (awF hl r (t + 1)) = nI 1 := by rw [awF_s, hcg, show decide (nI 1 = nI 1) = true from rfl, Bool.or_true]; rfl
                    have hGG := comeGo_s hl r t hcg
                    refine x_leq (ls' := [(3, .int (nI (t + 1))), (2, .int (bI (awF hl r (t + 1)))), (1, .int (r 0)), (0, .ref b)]) (by rw [haw]) ?_
                    refine x_geq (congrArg (fun f => xup G (b + 9) (eI 0 35 f)) hGG) ?_
                    exact ih (t + 1) (by omega)
              · exact absurd c119 (by decide)
            · refine x_iconst dX2_comeAndGo_102 ki_1 ?_
              refine x_goto (tgt := 107) dX2_comeAndGo_103 (by decide) ?_
              refine x_istore (ls' := [(4, .int (nI 1)), (3, .int (nI t)), (2, .int (bI (awF hl r t))), (1, .int (r 0)), (0, .ref b)]) dX2_comeAndGo_107 (by decide) rfl ?_
              refine x_pc (pc' := 109) rfl ?_
              refine x_aload_n dX2_comeAndGo_109 4 rfl ?_
              refine x_get dX2_comeAndGo_110 fX2_18 (xup_of (by omega) (hD.1)) rfl ?_
              refine x_bipush dX2_comeAndGo_113 kb_21 ?_
              refine x_iload_n dX2_comeAndGo_115 1 rfl ?_
              refine x_iaddN dX2_comeAndGo_116 ?_
              refine x_iload dX2_comeAndGo_117 0 rfl ?_
              refine x_ifN_eq (tgt := 126) dX2_comeAndGo_119 (by decide) (by have := hB 0 2; have := hB 0 3; have := hB 0 4; omega) (fun c119 => ?_) (fun c119 => ?_)
              · exact absurd c119 (by decide)
              · refine x_iconst dX2_comeAndGo_122 ki_4 ?_
                refine x_goto (tgt := 127) dX2_comeAndGo_123 (by decide) ?_
                refine x_iastN dX2_comeAndGo_127 (xup_eq) (by omega) (by decide) ?_
                refine x_geq xup_up ?_
                refine x_pc (pc' := 128) rfl ?_
                refine x_iload_n dX2_comeAndGo_128 2 rfl ?_
                refine x_ifB_ne (tgt := 137) dX2_comeAndGo_129 (by decide) (fun c129 => ?_) (fun c129 => ?_)
                · refine x_iconst dX2_comeAndGo_137 ki_1 ?_
                  refine x_goto (tgt := 142) dX2_comeAndGo_138 (by decide) ?_
                  refine x_istore_n (ls' := [(2, .int (nI 1)), (4, .int (nI 1)), (3, .int (nI t)), (1, .int (r 0)), (0, .ref b)]) dX2_comeAndGo_142 (by decide) rfl ?_
                  refine x_iinc (v := nI (t + 1)) (ls' := [(3, .int (nI (t + 1))), (2, .int (nI 1)), (4, .int (nI 1)), (1, .int (r 0)), (0, .ref b)]) dX2_comeAndGo_143 2 rfl (nIs _) (by decide) rfl ?_
                  refine x_goto (tgt := 11) dX2_comeAndGo_146 (by decide) ?_
                  refine x_perm (ls' := [(3, .int (nI (t + 1))), (2, .int (nI 1)), (1, .int (r 0)), (0, .ref b)]) [0, 1, 3, 4] rfl ?_
                  have hcg : cgV hl (r 0) t (r (21 + t)) = nI 4 := cgV_c c67 (Or.inr (Int32.not_lt.mp c99))
                  have haw : bI (awF hl r (t + 1)) = nI 1 := by rw [awF_s, hcg, show decide (nI 4 = nI 1) = false from rfl, c129]; rfl
                  have hGG := comeGo_s hl r t hcg
                  refine x_leq (ls' := [(3, .int (nI (t + 1))), (2, .int (bI (awF hl r (t + 1)))), (1, .int (r 0)), (0, .ref b)]) (by rw [haw]) ?_
                  refine x_geq (congrArg (fun f => xup G (b + 9) (eI 0 35 f)) hGG) ?_
                  exact ih (t + 1) (by omega)
                · refine x_iload dX2_comeAndGo_132 0 rfl ?_
                  refine x_ifN_ne (tgt := 141) dX2_comeAndGo_134 (by decide) (by have := hB 0 2; have := hB 0 3; have := hB 0 4; omega) (fun c134 => ?_) (fun c134 => ?_)
                  · refine x_iconst dX2_comeAndGo_141 ki_0 ?_
                    refine x_istore_n (ls' := [(2, .int (nI 0)), (4, .int (nI 1)), (3, .int (nI t)), (1, .int (r 0)), (0, .ref b)]) dX2_comeAndGo_142 (by decide) rfl ?_
                    refine x_iinc (v := nI (t + 1)) (ls' := [(3, .int (nI (t + 1))), (2, .int (nI 0)), (4, .int (nI 1)), (1, .int (r 0)), (0, .ref b)]) dX2_comeAndGo_143 2 rfl (nIs _) (by decide) rfl ?_
                    refine x_goto (tgt := 11) dX2_comeAndGo_146 (by decide) ?_
                    refine x_perm (ls' := [(3, .int (nI (t + 1))), (2, .int (nI 0)), (1, .int (r 0)), (0, .ref b)]) [0, 1, 3, 4] rfl ?_
                    have hcg : cgV hl (r 0) t (r (21 + t)) = nI 4 := cgV_c c67 (Or.inr (Int32.not_lt.mp c99))
                    have haw : bI (awF hl r (t + 1)) = nI 0 := by rw [awF_s, hcg, show decide (nI 4 = nI 1) = false from rfl, c129]; rfl
                    have hGG := comeGo_s hl r t hcg
                    refine x_leq (ls' := [(3, .int (nI (t + 1))), (2, .int (bI (awF hl r (t + 1)))), (1, .int (r 0)), (0, .ref b)]) (by rw [haw]) ?_
                    refine x_geq (congrArg (fun f => xup G (b + 9) (eI 0 35 f)) hGG) ?_
                    exact ih (t + 1) (by omega)
                  · exact absurd c134 (by decide)
      · refine x_aload_n dX2_comeAndGo_34 3 rfl ?_
        refine x_get dX2_comeAndGo_35 fX2_14 (xup_of (by omega) (hD.1)) rfl ?_
        refine x_get dX2_comeAndGo_38 fX2_100 (xup_of (by omega) (hD.2.1.1)) rfl ?_
        refine x_iload_n dX2_comeAndGo_41 0 rfl ?_
        refine x_ialdN dX2_comeAndGo_42 (xup_of (by omega) (hD.2.1.2.2.2.2.2.1)) (by omega) (by decide) ?_
        refine x_iload_n dX2_comeAndGo_43 2 rfl ?_
        refine x_icmp_ne (x := nI (hl 5 t)) (y := r 0) (tgt := 57) dX2_comeAndGo_44 (by decide) (fun c44 => ?_) (fun c44 => ?_)
        · refine x_pc (pc' := 57) rfl ?_
          refine x_aload_n dX2_comeAndGo_57 3 rfl ?_
          refine x_get dX2_comeAndGo_58 fX2_18 (xup_of (by omega) (hD.1)) rfl ?_
          refine x_bipush dX2_comeAndGo_61 kb_21 ?_
          refine x_iload_n dX2_comeAndGo_63 0 rfl ?_
          refine x_iaddN dX2_comeAndGo_64 ?_
          refine x_ialdN dX2_comeAndGo_65 (xup_eq) (by omega) (by decide) ?_
          refine x_topi (comeGo_at hl r t) ?_
          refine x_iconst dX2_comeAndGo_66 ki_1 ?_
          refine x_icmp_ne (x := r (21 + t)) (y := nI 1) (tgt := 143) dX2_comeAndGo_67 (by decide) (fun c67 => ?_) (fun c67 => ?_)
          · refine x_iinc (v := nI (t + 1)) (ls' := [(3, .int (nI (t + 1))), (2, .int (bI (awF hl r t))), (1, .int (r 0)), (0, .ref b)]) dX2_comeAndGo_143 0 rfl (nIs _) (by decide) rfl ?_
            refine x_goto (tgt := 11) dX2_comeAndGo_146 (by decide) ?_
            have hcg : cgV hl (r 0) t (r (21 + t)) = r (21 + t) := cgV_e c67 (fun q => c44 q.2)
            have haw : bI (awF hl r (t + 1)) = bI (awF hl r t) := by rw [awF_s, hcg, decide_eq_false c67, Bool.or_false]
            have hGG := comeGo_k hl r t hcg
            refine x_leq (ls' := [(3, .int (nI (t + 1))), (2, .int (bI (awF hl r (t + 1)))), (1, .int (r 0)), (0, .ref b)]) (by rw [haw]) ?_
            refine x_geq (congrArg (fun f => xup G (b + 9) (eI 0 35 f)) hGG) ?_
            exact ih (t + 1) (by omega)
          · refine x_iload_n dX2_comeAndGo_70 2 rfl ?_
            refine x_aload_n dX2_comeAndGo_71 3 rfl ?_
            refine x_pc (pc' := 72) rfl ?_
            refine x_get dX2_comeAndGo_72 fX2_14 (xup_of (by omega) (hD.1)) rfl ?_
            refine x_get dX2_comeAndGo_75 fX2_100 (xup_of (by omega) (hD.2.1.1)) rfl ?_
            refine x_iload_n dX2_comeAndGo_78 0 rfl ?_
            refine x_ialdN dX2_comeAndGo_79 (xup_of (by omega) (hD.2.1.2.2.2.2.2.1)) (by omega) (by decide) ?_
            refine x_isub dX2_comeAndGo_80 ?_
            refine x_aload_n dX2_comeAndGo_81 3 rfl ?_
            refine x_get dX2_comeAndGo_82 fX2_14 (xup_of (by omega) (hD.1)) rfl ?_
            refine x_get dX2_comeAndGo_85 fX2_103 (xup_of (by omega) (hD.2.1.1)) rfl ?_
            refine x_icmp_ge (x := (r 0) - (nI (hl 5 t))) (y := nI (hl 0 1)) (tgt := 102) dX2_comeAndGo_88 (by decide) (fun c88 => ?_) (fun c88 => ?_)
            · refine x_iconst dX2_comeAndGo_102 ki_1 ?_
              refine x_pc (pc' := 103) rfl ?_
              refine x_goto (tgt := 107) dX2_comeAndGo_103 (by decide) ?_
              refine x_istore (ls' := [(4, .int (nI 1)), (3, .int (nI t)), (2, .int (bI (awF hl r t))), (1, .int (r 0)), (0, .ref b)]) dX2_comeAndGo_107 (by decide) rfl ?_
              refine x_aload_n dX2_comeAndGo_109 4 rfl ?_
              refine x_get dX2_comeAndGo_110 fX2_18 (xup_of (by omega) (hD.1)) rfl ?_
              refine x_bipush dX2_comeAndGo_113 kb_21 ?_
              refine x_iload_n dX2_comeAndGo_115 1 rfl ?_
              refine x_iaddN dX2_comeAndGo_116 ?_
              refine x_iload dX2_comeAndGo_117 0 rfl ?_
              refine x_ifN_eq (tgt := 126) dX2_comeAndGo_119 (by decide) (by have := hB 0 2; have := hB 0 3; have := hB 0 4; omega) (fun c119 => ?_) (fun c119 => ?_)
              · exact absurd c119 (by decide)
              · refine x_iconst dX2_comeAndGo_122 ki_4 ?_
                refine x_pc (pc' := 123) rfl ?_
                refine x_goto (tgt := 127) dX2_comeAndGo_123 (by decide) ?_
                refine x_iastN dX2_comeAndGo_127 (xup_eq) (by omega) (by decide) ?_
                refine x_geq xup_up ?_
                refine x_iload_n dX2_comeAndGo_128 2 rfl ?_
                refine x_ifB_ne (tgt := 137) dX2_comeAndGo_129 (by decide) (fun c129 => ?_) (fun c129 => ?_)
                · refine x_iconst dX2_comeAndGo_137 ki_1 ?_
                  refine x_goto (tgt := 142) dX2_comeAndGo_138 (by decide) ?_
                  refine x_istore_n (ls' := [(2, .int (nI 1)), (4, .int (nI 1)), (3, .int (nI t)), (1, .int (r 0)), (0, .ref b)]) dX2_comeAndGo_142 (by decide) rfl ?_
                  refine x_iinc (v := nI (t + 1)) (ls' := [(3, .int (nI (t + 1))), (2, .int (nI 1)), (4, .int (nI 1)), (1, .int (r 0)), (0, .ref b)]) dX2_comeAndGo_143 2 rfl (nIs _) (by decide) rfl ?_
                  refine x_goto (tgt := 11) dX2_comeAndGo_146 (by decide) ?_
                  refine x_perm (ls' := [(3, .int (nI (t + 1))), (2, .int (nI 1)), (1, .int (r 0)), (0, .ref b)]) [0, 1, 3, 4] rfl ?_
                  have hcg : cgV hl (r 0) t (r (21 + t)) = nI 4 := cgV_c c67 (Or.inl c88)
                  have haw : bI (awF hl r (t + 1)) = nI 1 := by rw [awF_s, hcg, show decide (nI 4 = nI 1) = false from rfl, c129]; rfl
                  have hGG := comeGo_s hl r t hcg
                  refine x_leq (ls' := [(3, .int (nI (t + 1))), (2, .int (bI (awF hl r (t + 1)))), (1, .int (r 0)), (0, .ref b)]) (by rw [haw]) ?_
                  refine x_geq (congrArg (fun f => xup G (b + 9) (eI 0 35 f)) hGG) ?_
                  exact ih (t + 1) (by omega)
                · refine x_iload dX2_comeAndGo_132 0 rfl ?_
                  refine x_ifN_ne (tgt := 141) dX2_comeAndGo_134 (by decide) (by have := hB 0 2; have := hB 0 3; have := hB 0 4; omega) (fun c134 => ?_) (fun c134 => ?_)
                  · refine x_iconst dX2_comeAndGo_141 ki_0 ?_
                    refine x_istore_n (ls' := [(2, .int (nI 0)), (4, .int (nI 1)), (3, .int (nI t)), (1, .int (r 0)), (0, .ref b)]) dX2_comeAndGo_142 (by decide) rfl ?_
                    refine x_iinc (v := nI (t + 1)) (ls' := [(3, .int (nI (t + 1))), (2, .int (nI 0)), (4, .int (nI 1)), (1, .int (r 0)), (0, .ref b)]) dX2_comeAndGo_143 2 rfl (nIs _) (by decide) rfl ?_
                    refine x_goto (tgt := 11) dX2_comeAndGo_146 (by decide) ?_
                    refine x_perm (ls' := [(3, .int (nI (t + 1))), (2, .int (nI 0)), (1, .int (r 0)), (0, .ref b)]) [0, 1, 3, 4] rfl ?_
                    have hcg : cgV hl (r 0) t (r (21 + t)) = nI 4 := cgV_c c67 (Or.inl c88)
                    have haw : bI (awF hl r (t + 1)) = nI 0 := by rw [awF_s, hcg, show decide (nI 4 = nI 1) = false from rfl, c129]; rfl
                    have hGG := comeGo_s hl r t hcg
                    refine x_leq (ls' := [(3, .int (nI (t + 1))), (2, .int (bI (awF hl r (t + 1)))), (1, .int (r 0)), (0, .ref b)]) (by rw [haw]) ?_
                    refine x_geq (congrArg (fun f => xup G (b + 9) (eI 0 35 f)) hGG) ?_
                    exact ih (t + 1) (by omega)
                  · exact absurd c134 (by decide)
            · refine x_iload_n dX2_comeAndGo_91 2 rfl ?_
              refine x_pc (pc' := 92) rfl ?_
              refine x_aload_n dX2_comeAndGo_92 3 rfl ?_
              refine x_get dX2_comeAndGo_93 fX2_14 (xup_of (by omega) (hD.1)) rfl ?_
              refine x_get dX2_comeAndGo_96 fX2_106 (xup_of (by omega) (hD.2.1.1)) rfl ?_
              refine x_icmp_lt (x := r 0) (y := nI (hl 0 0)) (tgt := 106) dX2_comeAndGo_99 (by decide) (fun c99 => ?_) (fun c99 => ?_)
              · refine x_iconst dX2_comeAndGo_106 ki_0 ?_
                refine x_istore (ls' := [(4, .int (nI 0)), (3, .int (nI t)), (2, .int (bI (awF hl r t))), (1, .int (r 0)), (0, .ref b)]) dX2_comeAndGo_107 (by decide) rfl ?_
                refine x_aload_n dX2_comeAndGo_109 4 rfl ?_
                refine x_get dX2_comeAndGo_110 fX2_18 (xup_of (by omega) (hD.1)) rfl ?_
                refine x_bipush dX2_comeAndGo_113 kb_21 ?_
                refine x_iload_n dX2_comeAndGo_115 1 rfl ?_
                refine x_pc (pc' := 116) rfl ?_
                refine x_iaddN dX2_comeAndGo_116 ?_
                refine x_iload dX2_comeAndGo_117 0 rfl ?_
                refine x_ifN_eq (tgt := 126) dX2_comeAndGo_119 (by decide) (by have := hB 0 2; have := hB 0 3; have := hB 0 4; omega) (fun c119 => ?_) (fun c119 => ?_)
                · refine x_iconst dX2_comeAndGo_126 ki_1 ?_
                  refine x_iastN dX2_comeAndGo_127 (xup_eq) (by omega) (by decide) ?_
                  refine x_geq xup_up ?_
                  refine x_iload_n dX2_comeAndGo_128 2 rfl ?_
                  refine x_ifB_ne (tgt := 137) dX2_comeAndGo_129 (by decide) (fun c129 => ?_) (fun c129 => ?_)
                  · refine x_iconst dX2_comeAndGo_137 ki_1 ?_
                    refine x_goto (tgt := 142) dX2_comeAndGo_138 (by decide) ?_
                    refine x_istore_n (ls' := [(2, .int (nI 1)), (4, .int (nI 0)), (3, .int (nI t)), (1, .int (r 0)), (0, .ref b)]) dX2_comeAndGo_142 (by decide) rfl ?_
                    refine x_pc (pc' := 143) rfl ?_
                    refine x_iinc (v := nI (t + 1)) (ls' := [(3, .int (nI (t + 1))), (2, .int (nI 1)), (4, .int (nI 0)), (1, .int (r 0)), (0, .ref b)]) dX2_comeAndGo_143 2 rfl (nIs _) (by decide) rfl ?_
                    refine x_goto (tgt := 11) dX2_comeAndGo_146 (by decide) ?_
                    refine x_perm (ls' := [(3, .int (nI (t + 1))), (2, .int (nI 1)), (1, .int (r 0)), (0, .ref b)]) [0, 1, 3, 4] rfl ?_
                    have hcg : cgV hl (r 0) t (r (21 + t)) = nI 1 := cgV_d c67 (fun q => q.elim c88 (Int32.not_le.mpr c99))
                    have haw : bI (awF hl r (t + 1)) = nI 1 := by rw [awF_s, hcg, show decide (nI 1 = nI 1) = true from rfl, Bool.or_true]; rfl
                    have hGG := comeGo_s hl r t hcg
                    refine x_leq (ls' := [(3, .int (nI (t + 1))), (2, .int (bI (awF hl r (t + 1)))), (1, .int (r 0)), (0, .ref b)]) (by rw [haw]) ?_
                    refine x_geq (congrArg (fun f => xup G (b + 9) (eI 0 35 f)) hGG) ?_
                    exact ih (t + 1) (by omega)
                  · refine x_iload dX2_comeAndGo_132 0 rfl ?_
                    refine x_ifN_ne (tgt := 141) dX2_comeAndGo_134 (by decide) (by have := hB 0 2; have := hB 0 3; have := hB 0 4; omega) (fun c134 => ?_) (fun c134 => ?_)
                    · exact absurd c134 (by decide)
                    · refine x_iconst dX2_comeAndGo_137 ki_1 ?_
                      refine x_pc (pc' := 138) rfl ?_
                      refine x_goto (tgt := 142) dX2_comeAndGo_138 (by decide) ?_
                      refine x_istore_n (ls' := [(2, .int (nI 1)), (4, .int (nI 0)), (3, .int (nI t)), (1, .int (r 0)), (0, .ref b)]) dX2_comeAndGo_142 (by decide) rfl ?_
                      refine x_iinc (v := nI (t + 1)) (ls' := [(3, .int (nI (t + 1))), (2, .int (nI 1)), (4, .int (nI 0)), (1, .int (r 0)), (0, .ref b)]) dX2_comeAndGo_143 2 rfl (nIs _) (by decide) rfl ?_
                      refine x_goto (tgt := 11) dX2_comeAndGo_146 (by decide) ?_
                      refine x_perm (ls' := [(3, .int (nI (t + 1))), (2, .int (nI 1)), (1, .int (r 0)), (0, .ref b)]) [0, 1, 3, 4] rfl ?_
                      have hcg : cgV hl (r 0) t (r (21 + t)) = nI 1 := cgV_d c67 (fun q => q.elim c88 (Int32.not_le.mpr c99))
                      have haw : bI (awF hl r (t + 1)) = nI 1 := by rw [awF_s, hcg, show decide (nI 1 = nI 1) = true from rfl, Bool.or_true]; rfl
                      have hGG := comeGo_s hl r t hcg
                      refine x_leq (ls' := [(3, .int (nI (t + 1))), (2, .int (bI (awF hl r (t + 1)))), (1, .int (r 0)), (0, .ref b)]) (by rw [haw]) ?_
                      refine x_geq (congrArg (fun f => xup G (b + 9) (eI 0 35 f)) hGG) ?_
                      exact ih (t + 1) (by omega)
                · exact absurd c119 (by decide)
              · refine x_iconst dX2_comeAndGo_102 ki_1 ?_
                refine x_goto (tgt := 107) dX2_comeAndGo_103 (by decide) ?_
                refine x_istore (ls' := [(4, .int (nI 1)), (3, .int (nI t)), (2, .int (bI (awF hl r t))), (1, .int (r 0)), (0, .ref b)]) dX2_comeAndGo_107 (by decide) rfl ?_
                refine x_aload_n dX2_comeAndGo_109 4 rfl ?_
                refine x_get dX2_comeAndGo_110 fX2_18 (xup_of (by omega) (hD.1)) rfl ?_
                refine x_bipush dX2_comeAndGo_113 kb_21 ?_
                refine x_pc (pc' := 115) rfl ?_
                refine x_iload_n dX2_comeAndGo_115 1 rfl ?_
                refine x_iaddN dX2_comeAndGo_116 ?_
                refine x_iload dX2_comeAndGo_117 0 rfl ?_
                refine x_ifN_eq (tgt := 126) dX2_comeAndGo_119 (by decide) (by have := hB 0 2; have := hB 0 3; have := hB 0 4; omega) (fun c119 => ?_) (fun c119 => ?_)
                · exact absurd c119 (by decide)
                · refine x_iconst dX2_comeAndGo_122 ki_4 ?_
                  refine x_goto (tgt := 127) dX2_comeAndGo_123 (by decide) ?_
                  refine x_iastN dX2_comeAndGo_127 (xup_eq) (by omega) (by decide) ?_
                  refine x_geq xup_up ?_
                  refine x_iload_n dX2_comeAndGo_128 2 rfl ?_
                  refine x_ifB_ne (tgt := 137) dX2_comeAndGo_129 (by decide) (fun c129 => ?_) (fun c129 => ?_)
                  · refine x_iconst dX2_comeAndGo_137 ki_1 ?_
                    refine x_pc (pc' := 138) rfl ?_
                    refine x_goto (tgt := 142) dX2_comeAndGo_138 (by decide) ?_
                    refine x_istore_n (ls' := [(2, .int (nI 1)), (4, .int (nI 1)), (3, .int (nI t)), (1, .int (r 0)), (0, .ref b)]) dX2_comeAndGo_142 (by decide) rfl ?_
                    refine x_iinc (v := nI (t + 1)) (ls' := [(3, .int (nI (t + 1))), (2, .int (nI 1)), (4, .int (nI 1)), (1, .int (r 0)), (0, .ref b)]) dX2_comeAndGo_143 2 rfl (nIs _) (by decide) rfl ?_
                    refine x_goto (tgt := 11) dX2_comeAndGo_146 (by decide) ?_
                    refine x_perm (ls' := [(3, .int (nI (t + 1))), (2, .int (nI 1)), (1, .int (r 0)), (0, .ref b)]) [0, 1, 3, 4] rfl ?_
                    have hcg : cgV hl (r 0) t (r (21 + t)) = nI 4 := cgV_c c67 (Or.inr (Int32.not_lt.mp c99))
                    have haw : bI (awF hl r (t + 1)) = nI 1 := by rw [awF_s, hcg, show decide (nI 4 = nI 1) = false from rfl, c129]; rfl
                    have hGG := comeGo_s hl r t hcg
                    refine x_leq (ls' := [(3, .int (nI (t + 1))), (2, .int (bI (awF hl r (t + 1)))), (1, .int (r 0)), (0, .ref b)]) (by rw [haw]) ?_
                    refine x_geq (congrArg (fun f => xup G (b + 9) (eI 0 35 f)) hGG) ?_
                    exact ih (t + 1) (by omega)
                  · refine x_iload dX2_comeAndGo_132 0 rfl ?_
                    refine x_pc (pc' := 134) rfl ?_
                    refine x_ifN_ne (tgt := 141) dX2_comeAndGo_134 (by decide) (by have := hB 0 2; have := hB 0 3; have := hB 0 4; omega) (fun c134 => ?_) (fun c134 => ?_)
                    · refine x_iconst dX2_comeAndGo_141 ki_0 ?_
                      refine x_istore_n (ls' := [(2, .int (nI 0)), (4, .int (nI 1)), (3, .int (nI t)), (1, .int (r 0)), (0, .ref b)]) dX2_comeAndGo_142 (by decide) rfl ?_
                      refine x_iinc (v := nI (t + 1)) (ls' := [(3, .int (nI (t + 1))), (2, .int (nI 0)), (4, .int (nI 1)), (1, .int (r 0)), (0, .ref b)]) dX2_comeAndGo_143 2 rfl (nIs _) (by decide) rfl ?_
                      refine x_goto (tgt := 11) dX2_comeAndGo_146 (by decide) ?_
                      refine x_perm (ls' := [(3, .int (nI (t + 1))), (2, .int (nI 0)), (1, .int (r 0)), (0, .ref b)]) [0, 1, 3, 4] rfl ?_
                      have hcg : cgV hl (r 0) t (r (21 + t)) = nI 4 := cgV_c c67 (Or.inr (Int32.not_lt.mp c99))
                      have haw : bI (awF hl r (t + 1)) = nI 0 := by rw [awF_s, hcg, show decide (nI 4 = nI 1) = false from rfl, c129]; rfl
                      have hGG := comeGo_s hl r t hcg
                      refine x_leq (ls' := [(3, .int (nI (t + 1))), (2, .int (bI (awF hl r (t + 1)))), (1, .int (r 0)), (0, .ref b)]) (by rw [haw]) ?_
                      refine x_geq (congrArg (fun f => xup G (b + 9) (eI 0 35 f)) hGG) ?_
                      exact ih (t + 1) (by omega)
                    · exact absurd c134 (by decide)
        · refine x_pc (pc' := 47) rfl ?_
          refine x_aload_n dX2_comeAndGo_47 3 rfl ?_
          refine x_get dX2_comeAndGo_48 fX2_18 (xup_of (by omega) (hD.1)) rfl ?_
          refine x_bipush dX2_comeAndGo_51 kb_21 ?_
          refine x_iload_n dX2_comeAndGo_53 0 rfl ?_
          refine x_iaddN dX2_comeAndGo_54 ?_
          refine x_iconst dX2_comeAndGo_55 ki_1 ?_
          refine x_iastN dX2_comeAndGo_56 (xup_eq) (by omega) (by decide) ?_
          refine x_geq xup_up ?_
          refine x_aload_n dX2_comeAndGo_57 3 rfl ?_
          refine x_get dX2_comeAndGo_58 fX2_18 (xup_of (by omega) (hD.1)) rfl ?_
          refine x_bipush dX2_comeAndGo_61 kb_21 ?_
          refine x_pc (pc' := 63) rfl ?_
          refine x_iload_n dX2_comeAndGo_63 0 rfl ?_
          refine x_iaddN dX2_comeAndGo_64 ?_
          refine x_ialdN dX2_comeAndGo_65 (xup_eq) (by omega) (by decide) ?_
          refine x_topi (y := nI 1) (by simp [upd]) ?_
          refine x_iconst dX2_comeAndGo_66 ki_1 ?_
          refine x_icmpN_ne (tgt := 143) dX2_comeAndGo_67 (by decide) (by have := hB 0 2; have := hB 0 3; have := hB 0 4; omega) (by have := hB 0 2; have := hB 0 3; have := hB 0 4; omega) (fun c67 => ?_) (fun c67 => ?_)
          · exact absurd c67 (by decide)
          · refine x_iload_n dX2_comeAndGo_70 2 rfl ?_
            refine x_aload_n dX2_comeAndGo_71 3 rfl ?_
            refine x_get dX2_comeAndGo_72 fX2_14 (xup_of (by omega) (hD.1)) rfl ?_
            refine x_get dX2_comeAndGo_75 fX2_100 (xup_of (by omega) (hD.2.1.1)) rfl ?_
            refine x_iload_n dX2_comeAndGo_78 0 rfl ?_
            refine x_pc (pc' := 79) rfl ?_
            refine x_ialdN dX2_comeAndGo_79 (xup_of (by omega) (hD.2.1.2.2.2.2.2.1)) (by omega) (by decide) ?_
            refine x_isub dX2_comeAndGo_80 ?_
            refine x_aload_n dX2_comeAndGo_81 3 rfl ?_
            refine x_get dX2_comeAndGo_82 fX2_14 (xup_of (by omega) (hD.1)) rfl ?_
            refine x_get dX2_comeAndGo_85 fX2_103 (xup_of (by omega) (hD.2.1.1)) rfl ?_
            refine x_icmp_ge (x := (r 0) - (nI (hl 5 t))) (y := nI (hl 0 1)) (tgt := 102) dX2_comeAndGo_88 (by decide) (fun c88 => ?_) (fun c88 => ?_)
            · refine x_iconst dX2_comeAndGo_102 ki_1 ?_
              refine x_goto (tgt := 107) dX2_comeAndGo_103 (by decide) ?_
              refine x_istore (ls' := [(4, .int (nI 1)), (3, .int (nI t)), (2, .int (bI (awF hl r t))), (1, .int (r 0)), (0, .ref b)]) dX2_comeAndGo_107 (by decide) rfl ?_
              refine x_aload_n dX2_comeAndGo_109 4 rfl ?_
              refine x_pc (pc' := 110) rfl ?_
              refine x_get dX2_comeAndGo_110 fX2_18 (xup_of (by omega) (hD.1)) rfl ?_
              refine x_bipush dX2_comeAndGo_113 kb_21 ?_
              refine x_iload_n dX2_comeAndGo_115 1 rfl ?_
              refine x_iaddN dX2_comeAndGo_116 ?_
              refine x_iload dX2_comeAndGo_117 0 rfl ?_
              refine x_ifN_eq (tgt := 126) dX2_comeAndGo_119 (by decide) (by have := hB 0 2; have := hB 0 3; have := hB 0 4; omega) (fun c119 => ?_) (fun c119 => ?_)
              · exact absurd c119 (by decide)
              · refine x_iconst dX2_comeAndGo_122 ki_4 ?_
                refine x_goto (tgt := 127) dX2_comeAndGo_123 (by decide) ?_
                refine x_iastN dX2_comeAndGo_127 (xup_eq) (by omega) (by decide) ?_
                refine x_geq xup_up ?_
                refine x_iload_n dX2_comeAndGo_128 2 rfl ?_
                refine x_pc (pc' := 129) rfl ?_
                refine x_ifB_ne (tgt := 137) dX2_comeAndGo_129 (by decide) (fun c129 => ?_) (fun c129 => ?_)
                · refine x_iconst dX2_comeAndGo_137 ki_1 ?_
                  refine x_goto (tgt := 142) dX2_comeAndGo_138 (by decide) ?_
                  refine x_istore_n (ls' := [(2, .int (nI 1)), (4, .int (nI 1)), (3, .int (nI t)), (1, .int (r 0)), (0, .ref b)]) dX2_comeAndGo_142 (by decide) rfl ?_
                  refine x_iinc (v := nI (t + 1)) (ls' := [(3, .int (nI (t + 1))), (2, .int (nI 1)), (4, .int (nI 1)), (1, .int (r 0)), (0, .ref b)]) dX2_comeAndGo_143 2 rfl (nIs _) (by decide) rfl ?_
                  refine x_goto (tgt := 11) dX2_comeAndGo_146 (by decide) ?_
                  refine x_perm (ls' := [(3, .int (nI (t + 1))), (2, .int (nI 1)), (1, .int (r 0)), (0, .ref b)]) [0, 1, 3, 4] rfl ?_
                  have hcg : cgV hl (r 0) t (r (21 + t)) = nI 4 := cgV_a c31 c44 (Or.inl c88)
                  have haw : bI (awF hl r (t + 1)) = nI 1 := by rw [awF_s, hcg, show decide (nI 4 = nI 1) = false from rfl, c129]; rfl
                  have hGG := comeGo_s hl r t hcg
                  refine x_geq (congrArg (fun f => xup G (b + 9) (eI 0 35 f)) upd_upd) ?_
                  refine x_leq (ls' := [(3, .int (nI (t + 1))), (2, .int (bI (awF hl r (t + 1)))), (1, .int (r 0)), (0, .ref b)]) (by rw [haw]) ?_
                  refine x_geq (congrArg (fun f => xup G (b + 9) (eI 0 35 f)) hGG) ?_
                  exact ih (t + 1) (by omega)
                · refine x_iload dX2_comeAndGo_132 0 rfl ?_
                  refine x_ifN_ne (tgt := 141) dX2_comeAndGo_134 (by decide) (by have := hB 0 2; have := hB 0 3; have := hB 0 4; omega) (fun c134 => ?_) (fun c134 => ?_)
                  · refine x_iconst dX2_comeAndGo_141 ki_0 ?_
                    refine x_istore_n (ls' := [(2, .int (nI 0)), (4, .int (nI 1)), (3, .int (nI t)), (1, .int (r 0)), (0, .ref b)]) dX2_comeAndGo_142 (by decide) rfl ?_
                    refine x_iinc (v := nI (t + 1)) (ls' := [(3, .int (nI (t + 1))), (2, .int (nI 0)), (4, .int (nI 1)), (1, .int (r 0)), (0, .ref b)]) dX2_comeAndGo_143 2 rfl (nIs _) (by decide) rfl ?_
                    refine x_goto (tgt := 11) dX2_comeAndGo_146 (by decide) ?_
                    refine x_perm (ls' := [(3, .int (nI (t + 1))), (2, .int (nI 0)), (1, .int (r 0)), (0, .ref b)]) [0, 1, 3, 4] rfl ?_
                    have hcg : cgV hl (r 0) t (r (21 + t)) = nI 4 := cgV_a c31 c44 (Or.inl c88)
                    have haw : bI (awF hl r (t + 1)) = nI 0 := by rw [awF_s, hcg, show decide (nI 4 = nI 1) = false from rfl, c129]; rfl
                    have hGG := comeGo_s hl r t hcg
                    refine x_geq (congrArg (fun f => xup G (b + 9) (eI 0 35 f)) upd_upd) ?_
                    refine x_leq (ls' := [(3, .int (nI (t + 1))), (2, .int (bI (awF hl r (t + 1)))), (1, .int (r 0)), (0, .ref b)]) (by rw [haw]) ?_
                    refine x_geq (congrArg (fun f => xup G (b + 9) (eI 0 35 f)) hGG) ?_
                    exact ih (t + 1) (by omega)
                  · exact absurd c134 (by decide)
            · refine x_iload_n dX2_comeAndGo_91 2 rfl ?_
              refine x_aload_n dX2_comeAndGo_92 3 rfl ?_
              refine x_get dX2_comeAndGo_93 fX2_14 (xup_of (by omega) (hD.1)) rfl ?_
              refine x_get dX2_comeAndGo_96 fX2_106 (xup_of (by omega) (hD.2.1.1)) rfl ?_
              refine x_pc (pc' := 99) rfl ?_
              refine x_icmp_lt (x := r 0) (y := nI (hl 0 0)) (tgt := 106) dX2_comeAndGo_99 (by decide) (fun c99 => ?_) (fun c99 => ?_)
              · refine x_iconst dX2_comeAndGo_106 ki_0 ?_
                refine x_istore (ls' := [(4, .int (nI 0)), (3, .int (nI t)), (2, .int (bI (awF hl r t))), (1, .int (r 0)), (0, .ref b)]) dX2_comeAndGo_107 (by decide) rfl ?_
                refine x_aload_n dX2_comeAndGo_109 4 rfl ?_
                refine x_get dX2_comeAndGo_110 fX2_18 (xup_of (by omega) (hD.1)) rfl ?_
                refine x_bipush dX2_comeAndGo_113 kb_21 ?_
                refine x_iload_n dX2_comeAndGo_115 1 rfl ?_
                refine x_iaddN dX2_comeAndGo_116 ?_
                refine x_iload dX2_comeAndGo_117 0 rfl ?_
                refine x_ifN_eq (tgt := 126) dX2_comeAndGo_119 (by decide) (by have := hB 0 2; have := hB 0 3; have := hB 0 4; omega) (fun c119 => ?_) (fun c119 => ?_)
                · refine x_pc (pc' := 126) rfl ?_
                  refine x_iconst dX2_comeAndGo_126 ki_1 ?_
                  refine x_iastN dX2_comeAndGo_127 (xup_eq) (by omega) (by decide) ?_
                  refine x_geq xup_up ?_
                  refine x_iload_n dX2_comeAndGo_128 2 rfl ?_
                  refine x_ifB_ne (tgt := 137) dX2_comeAndGo_129 (by decide) (fun c129 => ?_) (fun c129 => ?_)
                  · refine x_iconst dX2_comeAndGo_137 ki_1 ?_
                    refine x_goto (tgt := 142) dX2_comeAndGo_138 (by decide) ?_
                    refine x_istore_n (ls' := [(2, .int (nI 1)), (4, .int (nI 0)), (3, .int (nI t)), (1, .int (r 0)), (0, .ref b)]) dX2_comeAndGo_142 (by decide) rfl ?_
                    refine x_iinc (v := nI (t + 1)) (ls' := [(3, .int (nI (t + 1))), (2, .int (nI 1)), (4, .int (nI 0)), (1, .int (r 0)), (0, .ref b)]) dX2_comeAndGo_143 2 rfl (nIs _) (by decide) rfl ?_
                    refine x_goto (tgt := 11) dX2_comeAndGo_146 (by decide) ?_
                    refine x_perm (ls' := [(3, .int (nI (t + 1))), (2, .int (nI 1)), (1, .int (r 0)), (0, .ref b)]) [0, 1, 3, 4] rfl ?_
                    have hcg : cgV hl (r 0) t (r (21 + t)) = nI 1 := cgV_b c31 c44 (fun q => q.elim c88 (Int32.not_le.mpr c99))
                    have haw : bI (awF hl r (t + 1)) = nI 1 := by rw [awF_s, hcg, show decide (nI 1 = nI 1) = true from rfl, Bool.or_true]; rfl
                    have hGG := comeGo_s hl r t hcg
                    refine x_geq (congrArg (fun f => xup G (b + 9) (eI 0 35 f)) upd_upd) ?_
                    refine x_leq (ls' := [(3, .int (nI (t + 1))), (2, .int (bI (awF hl r (t + 1)))), (1, .int (r 0)), (0, .ref b)]) (by rw [haw]) ?_
                    refine x_geq (congrArg (fun f => xup G (b + 9) (eI 0 35 f)) hGG) ?_
                    exact ih (t + 1) (by omega)
                  · refine x_iload dX2_comeAndGo_132 0 rfl ?_
                    refine x_ifN_ne (tgt := 141) dX2_comeAndGo_134 (by decide) (by have := hB 0 2; have := hB 0 3; have := hB 0 4; omega) (fun c134 => ?_) (fun c134 => ?_)
                    · exact absurd c134 (by decide)
                    · refine x_iconst dX2_comeAndGo_137 ki_1 ?_
                      refine x_goto (tgt := 142) dX2_comeAndGo_138 (by decide) ?_
                      refine x_istore_n (ls' := [(2, .int (nI 1)), (4, .int (nI 0)), (3, .int (nI t)), (1, .int (r 0)), (0, .ref b)]) dX2_comeAndGo_142 (by decide) rfl ?_
                      refine x_iinc (v := nI (t + 1)) (ls' := [(3, .int (nI (t + 1))), (2, .int (nI 1)), (4, .int (nI 0)), (1, .int (r 0)), (0, .ref b)]) dX2_comeAndGo_143 2 rfl (nIs _) (by decide) rfl ?_
                      refine x_pc (pc' := 146) rfl ?_
                      refine x_goto (tgt := 11) dX2_comeAndGo_146 (by decide) ?_
                      refine x_perm (ls' := [(3, .int (nI (t + 1))), (2, .int (nI 1)), (1, .int (r 0)), (0, .ref b)]) [0, 1, 3, 4] rfl ?_
                      have hcg : cgV hl (r 0) t (r (21 + t)) = nI 1 := cgV_b c31 c44 (fun q => q.elim c88 (Int32.not_le.mpr c99))
                      have haw : bI (awF hl r (t + 1)) = nI 1 := by rw [awF_s, hcg, show decide (nI 1 = nI 1) = true from rfl, Bool.or_true]; rfl
                      have hGG := comeGo_s hl r t hcg
                      refine x_geq (congrArg (fun f => xup G (b + 9) (eI 0 35 f)) upd_upd) ?_
                      refine x_leq (ls' := [(3, .int (nI (t + 1))), (2, .int (bI (awF hl r (t + 1)))), (1, .int (r 0)), (0, .ref b)]) (by rw [haw]) ?_
                      refine x_geq (congrArg (fun f => xup G (b + 9) (eI 0 35 f)) hGG) ?_
                      exact ih (t + 1) (by omega)
                · exact absurd c119 (by decide)
              · refine x_iconst dX2_comeAndGo_102 ki_1 ?_
                refine x_goto (tgt := 107) dX2_comeAndGo_103 (by decide) ?_
                refine x_istore (ls' := [(4, .int (nI 1)), (3, .int (nI t)), (2, .int (bI (awF hl r t))), (1, .int (r 0)), (0, .ref b)]) dX2_comeAndGo_107 (by decide) rfl ?_
                refine x_aload_n dX2_comeAndGo_109 4 rfl ?_
                refine x_get dX2_comeAndGo_110 fX2_18 (xup_of (by omega) (hD.1)) rfl ?_
                refine x_bipush dX2_comeAndGo_113 kb_21 ?_
                refine x_iload_n dX2_comeAndGo_115 1 rfl ?_
                refine x_iaddN dX2_comeAndGo_116 ?_
                refine x_iload dX2_comeAndGo_117 0 rfl ?_
                refine x_pc (pc' := 119) rfl ?_
                refine x_ifN_eq (tgt := 126) dX2_comeAndGo_119 (by decide) (by have := hB 0 2; have := hB 0 3; have := hB 0 4; omega) (fun c119 => ?_) (fun c119 => ?_)
                · exact absurd c119 (by decide)
                · refine x_iconst dX2_comeAndGo_122 ki_4 ?_
                  refine x_goto (tgt := 127) dX2_comeAndGo_123 (by decide) ?_
                  refine x_iastN dX2_comeAndGo_127 (xup_eq) (by omega) (by decide) ?_
                  refine x_geq xup_up ?_
                  refine x_iload_n dX2_comeAndGo_128 2 rfl ?_
                  refine x_ifB_ne (tgt := 137) dX2_comeAndGo_129 (by decide) (fun c129 => ?_) (fun c129 => ?_)
                  · refine x_iconst dX2_comeAndGo_137 ki_1 ?_
                    refine x_goto (tgt := 142) dX2_comeAndGo_138 (by decide) ?_
                    refine x_istore_n (ls' := [(2, .int (nI 1)), (4, .int (nI 1)), (3, .int (nI t)), (1, .int (r 0)), (0, .ref b)]) dX2_comeAndGo_142 (by decide) rfl ?_
                    refine x_iinc (v := nI (t + 1)) (ls' := [(3, .int (nI (t + 1))), (2, .int (nI 1)), (4, .int (nI 1)), (1, .int (r 0)), (0, .ref b)]) dX2_comeAndGo_143 2 rfl (nIs _) (by decide) rfl ?_
                    refine x_pc (pc' := 146) rfl ?_
                    refine x_goto (tgt := 11) dX2_comeAndGo_146 (by decide) ?_
                    refine x_perm (ls' := [(3, .int (nI (t + 1))), (2, .int (nI 1)), (1, .int (r 0)), (0, .ref b)]) [0, 1, 3, 4] rfl ?_
                    have hcg : cgV hl (r 0) t (r (21 + t)) = nI 4 := cgV_a c31 c44 (Or.inr (Int32.not_lt.mp c99))
                    have haw : bI (awF hl r (t + 1)) = nI 1 := by rw [awF_s, hcg, show decide (nI 4 = nI 1) = false from rfl, c129]; rfl
                    have hGG := comeGo_s hl r t hcg
                    refine x_geq (congrArg (fun f => xup G (b + 9) (eI 0 35 f)) upd_upd) ?_
                    refine x_leq (ls' := [(3, .int (nI (t + 1))), (2, .int (bI (awF hl r (t + 1)))), (1, .int (r 0)), (0, .ref b)]) (by rw [haw]) ?_
                    refine x_geq (congrArg (fun f => xup G (b + 9) (eI 0 35 f)) hGG) ?_
                    exact ih (t + 1) (by omega)
                  · refine x_iload dX2_comeAndGo_132 0 rfl ?_
                    refine x_ifN_ne (tgt := 141) dX2_comeAndGo_134 (by decide) (by have := hB 0 2; have := hB 0 3; have := hB 0 4; omega) (fun c134 => ?_) (fun c134 => ?_)
                    · refine x_iconst dX2_comeAndGo_141 ki_0 ?_
                      refine x_istore_n (ls' := [(2, .int (nI 0)), (4, .int (nI 1)), (3, .int (nI t)), (1, .int (r 0)), (0, .ref b)]) dX2_comeAndGo_142 (by decide) rfl ?_
                      refine x_pc (pc' := 143) rfl ?_
                      refine x_iinc (v := nI (t + 1)) (ls' := [(3, .int (nI (t + 1))), (2, .int (nI 0)), (4, .int (nI 1)), (1, .int (r 0)), (0, .ref b)]) dX2_comeAndGo_143 2 rfl (nIs _) (by decide) rfl ?_
                      refine x_goto (tgt := 11) dX2_comeAndGo_146 (by decide) ?_
                      refine x_perm (ls' := [(3, .int (nI (t + 1))), (2, .int (nI 0)), (1, .int (r 0)), (0, .ref b)]) [0, 1, 3, 4] rfl ?_
                      have hcg : cgV hl (r 0) t (r (21 + t)) = nI 4 := cgV_a c31 c44 (Or.inr (Int32.not_lt.mp c99))
                      have haw : bI (awF hl r (t + 1)) = nI 0 := by rw [awF_s, hcg, show decide (nI 4 = nI 1) = false from rfl, c129]; rfl
                      have hGG := comeGo_s hl r t hcg
                      refine x_geq (congrArg (fun f => xup G (b + 9) (eI 0 35 f)) upd_upd) ?_
                      refine x_leq (ls' := [(3, .int (nI (t + 1))), (2, .int (bI (awF hl r (t + 1)))), (1, .int (r 0)), (0, .ref b)]) (by rw [haw]) ?_
                      refine x_geq (congrArg (fun f => xup G (b + 9) (eI 0 35 f)) hGG) ?_
                      exact ih (t + 1) (by omega)
                    · exact absurd c134 (by decide)
theorem Day_comeAndGo {K : xG} {h b jd : Nat} {G : xHp} {hl : xHl} {r : xRw} {ru : Option Nat} (hD : DayAt G b hl r jd ru) (hO : HallOk hl) : xCall K mX2_comeAndGo 0 0 0 [.ref b] h G (xRet (some (.int (bI (awF hl r (hl 0 4))))) h (xup G (b + 9) (eI 0 35 (comeGo hl r (hl 0 4))))) := by
  refine x_entry (by decide) (ls := [(0, .ref b)]) rfl (Nat.le_of_ble_eq_true rfl) ?_
  refine x_aload_n dX2_comeAndGo_0 0 rfl ?_
  refine x_get dX2_comeAndGo_1 fX2_18 (hD.1) rfl ?_
  refine x_iconst dX2_comeAndGo_4 ki_0 ?_
  refine x_ialdN dX2_comeAndGo_5 (hD.2.2) (by decide) (by decide) ?_
  refine x_istore_n (ls' := [(1, .int (r 0)), (0, .ref b)]) dX2_comeAndGo_6 (by decide) rfl ?_
  refine x_iconst dX2_comeAndGo_7 ki_0 ?_
  refine x_istore_n (ls' := [(2, .int (nI 0)), (1, .int (r 0)), (0, .ref b)]) dX2_comeAndGo_8 (by decide) rfl ?_
  refine x_iconst dX2_comeAndGo_9 ki_0 ?_
  refine x_istore_n (ls' := [(3, .int (nI 0)), (2, .int (nI 0)), (1, .int (r 0)), (0, .ref b)]) dX2_comeAndGo_10 (by decide) rfl ?_
  refine x_geq (show G = xup G (b + 9) (eI 0 35 (comeGo hl r 0)) from by rw [comeGo_0, xup_same hD.2.2]) ?_
  exact Day_comeAndGo_loop hD hO (hl 0 4) 0 (by omega)
