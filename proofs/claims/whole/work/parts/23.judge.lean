/-! ===== Judge ===== -/
def JudgeAt (G : xHp) (j : Nat) (wd sk : Nat → Int64) : Prop := G j = some (eO 5 [.ref (j + 1), .ref (j + 2)]) ∧ G (j + 1) = some (eJ 12 wd) ∧ G (j + 2) = some (eJ 32 sk)
theorem JudgeAt.fr {G G' : xHp} {j : Nat} {wd sk : Nat → Int64} (h : JudgeAt G j wd sk) (hf : ∀ a, j ≤ a → a < j + 3 → G' a = G a) : JudgeAt G' j wd sk :=
  ⟨(hf _ (by omega) (by omega)).trans h.1, (hf _ (by omega) (by omega)).trans h.2.1, (hf _ (by omega) (by omega)).trans h.2.2⟩
theorem JudgeAt.w {G : xHp} {j : Nat} {wd sk : Nat → Int64} (h : JudgeAt G j wd sk) (wd' : Nat → Int64) : JudgeAt (xup G (j + 1) (eJ 12 wd')) j wd' sk := ⟨xup_of (by omega) h.1, xup_eq, xup_of (by omega) h.2.2⟩
theorem JudgeAt.s {G : xHp} {j : Nat} {wd sk : Nat → Int64} (h : JudgeAt G j wd sk) (sk' : Nat → Int64) : JudgeAt (xup G (j + 2) (eJ 32 sk')) j wd sk' := ⟨xup_of (by omega) h.1, xup_of (by omega) h.2.1, xup_eq⟩
theorem cntF_t {p : Nat → Bool} {n : Nat} (h : p n = true) : cntF p n + 1 = cntF p (n + 1) := by simp [cntF, h]
theorem cntF_f {p : Nat → Bool} {n : Nat} (h : p n = false) : cntF p n = cntF p (n + 1) := by simp [cntF, h]
def bN (p : Nat → Bool) : Nat → Nat
  | 0 => 0
  | t + 1 => bN p t + (if p t then 2 ^ t else 0)
theorem bN_lt (p : Nat → Bool) : ∀ n, bN p n < 2 ^ n
  | 0 => by simp [bN]
  | n + 1 => by
    have h1 := bN_lt p n
    have h2 : 2 ^ (n + 1) = 2 ^ n + 2 ^ n := by rw [Nat.pow_succ]; omega
    simp only [bN]
    split <;> omega
theorem sh7 : ∀ t, t < 7 → (1 : Int32) <<< (nI t &&& 31) = nI (2 ^ t) := by decide +kernel
theorem nI_or {a b k : Nat} (ha : a < 2 ^ k) (hb : b = 2 ^ k) : nI a ||| nI b = nI (a + b) := by
  subst hb
  have h1 : nI a ||| nI (2 ^ k) = nI (a ||| 2 ^ k) := by
    apply Int32.toBitVec_inj.mp
    simp [nI, BitVec.ofNat_or]
  have h2 : a ||| 2 ^ k = a + 2 ^ k := by
    have := Nat.two_pow_add_eq_or_of_lt ha 1
    rw [Nat.mul_one] at this
    rw [Nat.or_comm, ← this, Nat.add_comm]
  rw [h1, h2]
theorem bits_bN (hl : xHl) (r : xRw) (how : Int32) : ∀ n, n ≤ 7 → bitsF hl r how n = nI (bN (fun t => decide (r (21 + t) = how)) n)
  | 0, _ => rfl
  | n + 1, h => by
    have ih := bits_bN hl r how n (by omega)
    simp only [bitsF, bN]
    by_cases hc : r (21 + n) = how
    · rw [if_pos hc, ih, sh7 n (by omega), nI_or (bN_lt _ n) rfl]
      simp [hc]
    · rw [if_neg hc, ih]
      simp [hc]
theorem pop7 : ∀ b0 b1 b2 b3 b4 b5 b6 : Bool, bcI (nI ((if b0 then 1 else 0) + (if b1 then 2 else 0) + (if b2 then 4 else 0) + (if b3 then 8 else 0) + (if b4 then 16 else 0) + (if b5 then 32 else 0) + (if b6 then 64 else 0))) = nI ((if b0 then 1 else 0) + (if b1 then 1 else 0) + (if b2 then 1 else 0) + (if b3 then 1 else 0) + (if b4 then 1 else 0) + (if b5 then 1 else 0) + (if b6 then 1 else 0)) := by decide +kernel
theorem pop_bN (p : Nat → Bool) {n : Nat} (hn : n ≤ 7) : bcI (nI (bN p n)) = nI (cntF p n) := by
  match n, hn with
  | 0, _ => simpa [bN, cntF] using pop7 false false false false false false false
  | 1, _ => simpa [bN, cntF] using pop7 (p 0) false false false false false false
  | 2, _ => simpa [bN, cntF] using pop7 (p 0) (p 1) false false false false false
  | 3, _ => simpa [bN, cntF] using pop7 (p 0) (p 1) (p 2) false false false false
  | 4, _ => simpa [bN, cntF] using pop7 (p 0) (p 1) (p 2) (p 3) false false false
  | 5, _ => simpa [bN, cntF] using pop7 (p 0) (p 1) (p 2) (p 3) (p 4) false false
  | 6, _ => simpa [bN, cntF] using pop7 (p 0) (p 1) (p 2) (p 3) (p 4) (p 5) false
  | 7, _ => simpa [bN, cntF] using pop7 (p 0) (p 1) (p 2) (p 3) (p 4) (p 5) (p 6)
  | n + 8, h => omega
theorem bitsOf_pop (hl : xHl) (r : xRw) (how : Int32) (h : hl 0 4 ≤ 7) : bcI (bitsOf hl r how) = nI (cntF (fun t => decide (r (21 + t) = how)) (hl 0 4)) := by
  unfold bitsOf
  rw [bits_bN hl r how _ h, pop_bN _ h]
/-- the words of a mender -/
def tmW (hl : xHl) (r : xRw) (q : Nat) (wd : Nat → Int64) : Nat → Int64 := vp_updL (vp_updL (vp_updL (vp_updL (vp_updL wd 0 (wordOf hl r q 0 0)) 8 (wordOf hl r q 0 8)) 9 (wordOf hl r q 0 9)) 10 (wordOf hl r q 0 10)) 11 (wordOf hl r q 0 11)
def ttW (hl : xHl) (r : xRw) (q t : Nat) (wd : Nat → Int64) : Nat → Int64 := vp_updL (vp_updL (vp_updL (vp_updL (vp_updL (vp_updL (vp_updL wd 1 (wordOf hl r q t 1)) 2 (wordOf hl r q t 2)) 3 (wordOf hl r q t 3)) 4 (wordOf hl r q t 4)) 5 (wordOf hl r q t 5)) 6 (wordOf hl r q t 6)) 7 (wordOf hl r q t 7)
/-- the mender's words stand -/
def mdOk (hl : xHl) (r : xRw) (q : Nat) (wd : Nat → Int64) : Prop := wd 0 = wordOf hl r q 0 0 ∧ wd 8 = wordOf hl r q 0 8 ∧ wd 9 = wordOf hl r q 0 9 ∧ wd 10 = wordOf hl r q 0 10 ∧ wd 11 = wordOf hl r q 0 11
theorem mdOk_t (hl : xHl) (r : xRw) (q : Nat) (wd : Nat → Int64) : mdOk hl r q (tmW hl r q wd) := by simp [mdOk, tmW, vp_updL]
theorem mdOk_k {hl : xHl} {r : xRw} {q : Nat} {wd : Nat → Int64} (h : mdOk hl r q wd) (t : Nat) : mdOk hl r q (ttW hl r q t wd) := by
  obtain ⟨h1, h2, h3, h4, h5⟩ := h
  simp [mdOk, ttW, vp_updL, h1, h2, h3, h4, h5]
theorem ttW_all {hl : xHl} {r : xRw} {q : Nat} {wd : Nat → Int64} (h : mdOk hl r q wd) (t : Nat) : ∀ w, w < 12 → ttW hl r q t wd w = wordOf hl r q t w := by
  obtain ⟨h1, h2, h3, h4, h5⟩ := h
  intro w hw
  match w, hw with
  | 0, _ => simp [ttW, vp_updL, h1, wordOf]
  | 1, _ => simp [ttW, vp_updL]
  | 2, _ => simp [ttW, vp_updL]
  | 3, _ => simp [ttW, vp_updL]
  | 4, _ => simp [ttW, vp_updL]
  | 5, _ => simp [ttW, vp_updL]
  | 6, _ => simp [ttW, vp_updL]
  | 7, _ => simp [ttW, vp_updL]
  | 8, _ => simp [ttW, vp_updL, h2, wordOf]
  | 9, _ => simp [ttW, vp_updL, h3, wordOf]
  | 10, _ => simp [ttW, vp_updL, h4, wordOf]
  | 11, _ => simp [ttW, vp_updL, h5, wordOf]
  | n + 12, h => omega
theorem evC_cong {wd wd' : Nat → Int64} (h : ∀ w, w < 12 → wd w = wd' w) : ∀ (sp : List Nat) (stk : List Int64), evC wd sp stk = evC wd' sp stk
  | [], _ => rfl
  | s :: ss, stk => by
    have ih := evC_cong h ss
    by_cases h1 : s / 1048576 ≤ 1
    · by_cases h2 : stk.length < 32
      · rw [evC_val h1 h2, evC_val h1 h2, ih]
        congr 2
        unfold valS
        split
        · rfl
        · split
          · rename_i h3; exact h _ h3
          · rfl
      · rw [evC_valF h1 h2, evC_valF h1 h2, ih]
    · by_cases h3 : s / 1048576 = 14
      · cases stk with
        | nil => rw [evC_not0 h3, evC_not0 h3, ih]
        | cons a r => rw [evC_not h3, evC_not h3, ih]
      · by_cases h4 : s / 1048576 = 15
        · cases stk with
          | nil => rw [evC_cl0 h4, evC_cl0 h4]
          | cons a r => rw [evC_cl h4, evC_cl h4]
        · by_cases h5 : s / 1048576 = 16
          · match stk with
            | [] => rw [evC_ci0 h5 (by simp), evC_ci0 h5 (by simp), ih]
            | [x] => rw [evC_ci0 h5 (by simp), evC_ci0 h5 (by simp), ih]
            | a :: b :: r => rw [evC_ci h5, evC_ci h5, ih]
          · match stk with
            | [] => rw [evC_jn0 h1 h3 h4 h5 (by simp), evC_jn0 h1 h3 h4 h5 (by simp), ih]
            | [x] => rw [evC_jn0 h1 h3 h4 h5 (by simp), evC_jn0 h1 h3 h4 h5 (by simp), ih]
            | a :: b :: r => rw [evC_jn h1 h3 h4 h5, evC_jn h1 h3 h4 h5, ih]
def chI : Option Nat → Int32
  | none => -1
  | some t => nI t
theorem Judge_tellMender_l2 {K : xG} {h b j jd : Nat} {G : xHp} {hl : xHl} {r : xRw} {ru : Option Nat} {wd sk : Nat → Int64} {q : Nat} (hD : DayAt G b hl r jd ru) (hJ : JudgeAt G j wd sk) (hO : HallOk hl) (hne : j + 3 ≤ b ∨ b + 10 ≤ j) (hq : q < 4) : ∀ (k t : Nat), t + k = hl 0 2 → xV K mX5_tellMender 1 0 0 h G 41 [(5, .int (nI t)), (4, .int (nI (cntF (fun s => decide (0 < hl 3 (q * 4 + s))) t))), (3, .int (nI (cntF (fun q => decide (r (5 + q) = -1)) (hl 0 3)))), (0, .ref j), (1, .ref b), (2, .int (nI q))] [] (xRet none h (xup G (j + 1) (eJ 12 (tmW hl r q wd)))) := by
  have hB := hD.2.1.2.2.2.2.2.2.2.2
  obtain ⟨o2, o3, o4, -⟩ := id hO
  intro k
  induction k with
  | zero =>
    intro t hv
    have hv0 : t = hl 0 2 := by omega
    subst hv0
    refine x_iload dX5_tellMender_41 0 rfl ?_
    refine x_aload_n dX5_tellMender_43 4 rfl ?_
    refine x_get dX5_tellMender_44 fX5_30 (hD.1) rfl ?_
    refine x_get dX5_tellMender_47 fX5_63 (hD.2.1.1) rfl ?_
    refine x_icmpN_ge (tgt := 75) dX5_tellMender_50 (by decide) (by have := hB 0 2; have := hB 0 3; have := hB 0 4; omega) (by have := hB 0 2; have := hB 0 3; have := hB 0 4; omega) (fun c50 => ?_) (fun c50 => ?_)
    · refine x_aload_n dX5_tellMender_75 3 rfl ?_
      refine x_get dX5_tellMender_76 fX5_11 (hJ.1) rfl ?_
      refine x_iconst dX5_tellMender_79 ki_0 ?_
      refine x_iload_n dX5_tellMender_80 5 rfl ?_
      refine x_pc (pc' := 81) rfl ?_
      refine x_i2l dX5_tellMender_81 ?_
      refine x_lastN dX5_tellMender_82 (hJ.2.1) (by decide) (by decide) ?_
      refine x_aload_n dX5_tellMender_83 3 rfl ?_
      refine x_get dX5_tellMender_84 fX5_11 (xup_of (by omega) (hJ.1)) rfl ?_
      refine x_bipush dX5_tellMender_87 kb_8 ?_
      refine x_aload_n dX5_tellMender_89 4 rfl ?_
      refine x_iconst dX5_tellMender_90 ki_1 ?_
      refine x_cV (N := mX2_bitsOf) (d' := 0) (mc := 0) (ms := 0) (cb := 0) (sb := 0) (As := [.int (nI 1)]) (st := [.int (nI 8), .ref (j + 1)]) dX5_tellMender_91 mX2_bitsOf_v lX5_70 rfl rfl (xup_of (by omega) (hD.1)) rfl (by decide) (Nat.le_of_ble_eq_true rfl) (Day_bitsOf (hD.off (by omega)) hO) rfl (st1 := [.int (bitsOf hl r (nI 1)), .int (nI 8), .ref (j + 1)]) rfl ?_
      refine x_cS (N := mJ6_bitCount_0f7a4) (d' := 0) (mc := 0) (ms := 0) (cb := 0) (sb := 0) (As := [.int (bitsOf hl r (nI 1))]) (st := [.int (nI 8), .ref (j + 1)]) dX5_tellMender_94 mJ6_bitCount_0f7a4_s lX5_74 rfl (by decide) (Nat.le_of_ble_eq_true rfl) (Int_bitCount) rfl (st1 := [.int (bcI (bitsOf hl r (nI 1))), .int (nI 8), .ref (j + 1)]) rfl ?_
      refine x_topi (bitsOf_pop hl r (nI 1) o4) ?_
      refine x_i2l dX5_tellMender_97 ?_
      refine x_pc (pc' := 98) rfl ?_
      refine x_lastN dX5_tellMender_98 (xup_eq) (by decide) (by decide) ?_
      refine x_geq xup_up ?_
      refine x_aload_n dX5_tellMender_99 3 rfl ?_
      refine x_get dX5_tellMender_100 fX5_11 (xup_of (by omega) (hJ.1)) rfl ?_
      refine x_bipush dX5_tellMender_103 kb_9 ?_
      refine x_aload_n dX5_tellMender_105 4 rfl ?_
      refine x_get dX5_tellMender_106 fX5_30 (xup_of (by omega) (hD.1)) rfl ?_
      refine x_get dX5_tellMender_109 fX5_79 (xup_of (by omega) (hD.2.1.1)) rfl ?_
      refine x_aload_n dX5_tellMender_112 4 rfl ?_
      refine x_get dX5_tellMender_113 fX5_82 (xup_of (by omega) (hD.1)) rfl ?_
      refine x_iconst dX5_tellMender_116 ki_0 ?_
      refine x_pc (pc' := 117) rfl ?_
      refine x_ialdN dX5_tellMender_117 (xup_of (by omega) (hD.2.2)) (by decide) (by decide) ?_
      refine x_isub dX5_tellMender_118 ?_
      refine x_i2l dX5_tellMender_119 ?_
      refine x_lastN dX5_tellMender_120 (xup_eq) (by decide) (by decide) ?_
      refine x_geq xup_up ?_
      refine x_aload_n dX5_tellMender_121 3 rfl ?_
      refine x_get dX5_tellMender_122 fX5_11 (xup_of (by omega) (hJ.1)) rfl ?_
      refine x_bipush dX5_tellMender_125 kb_10 ?_
      refine x_iload_n dX5_tellMender_127 2 rfl ?_
      refine x_i2l dX5_tellMender_128 ?_
      refine x_lastN dX5_tellMender_129 (xup_eq) (by decide) (by decide) ?_
      refine x_geq xup_up ?_
      refine x_pc (pc' := 130) rfl ?_
      refine x_aload_n dX5_tellMender_130 3 rfl ?_
      refine x_get dX5_tellMender_131 fX5_11 (xup_of (by omega) (hJ.1)) rfl ?_
      refine x_bipush dX5_tellMender_134 kb_11 ?_
      refine x_iload dX5_tellMender_136 1 rfl ?_
      refine x_i2l dX5_tellMender_138 ?_
      refine x_lastN dX5_tellMender_139 (xup_eq) (by decide) (by decide) ?_
      refine x_geq xup_up ?_
      exact x_vret dX5_tellMender_140 rfl (xRet_i)
    · exact absurd c50 (by omega)
  | succ k ih =>
    intro t hv
    refine x_iload dX5_tellMender_41 0 rfl ?_
    refine x_aload_n dX5_tellMender_43 4 rfl ?_
    refine x_get dX5_tellMender_44 fX5_30 (hD.1) rfl ?_
    refine x_get dX5_tellMender_47 fX5_63 (hD.2.1.1) rfl ?_
    refine x_icmpN_ge (tgt := 75) dX5_tellMender_50 (by decide) (by have := hB 0 2; have := hB 0 3; have := hB 0 4; omega) (by have := hB 0 2; have := hB 0 3; have := hB 0 4; omega) (fun c50 => ?_) (fun c50 => ?_)
    · exact absurd c50 (by omega)
    · refine x_aload_n dX5_tellMender_53 4 rfl ?_
      refine x_get dX5_tellMender_54 fX5_30 (hD.1) rfl ?_
      refine x_iload_n dX5_tellMender_57 5 rfl ?_
      refine x_iload dX5_tellMender_58 0 rfl ?_
      refine x_pc (pc' := 60) rfl ?_
      refine x_cV (N := mX3_skillOf) (d' := 0) (mc := 0) (ms := 0) (cb := 0) (sb := 0) (As := [.int (nI q), .int (nI t)]) (st := []) dX5_tellMender_60 mX3_skillOf_v lX5_66 rfl rfl (hD.2.1.1) rfl (by decide) (Nat.le_of_ble_eq_true rfl) (Hall_skillOf hD.2.1 hq (by omega)) rfl (st1 := [.int (nI (hl 3 (q * 4 + t)))]) rfl ?_
      refine x_ifN_le (tgt := 69) dX5_tellMender_63 (by decide) (by have := hB 3 (q * 4 + t); omega) (fun c63 => ?_) (fun c63 => ?_)
      · refine x_iinc (v := nI (t + 1)) (ls' := [(5, .int (nI (t + 1))), (4, .int (nI (cntF (fun s => decide (0 < hl 3 (q * 4 + s))) t))), (3, .int (nI (cntF (fun q => decide (r (5 + q) = -1)) (hl 0 3)))), (0, .ref j), (1, .ref b), (2, .int (nI q))]) dX5_tellMender_69 0 rfl (nIs _) (by decide) rfl ?_
        refine x_goto (tgt := 41) dX5_tellMender_72 (by decide) ?_
        rw [show cntF (fun s => decide (0 < hl 3 (q * 4 + s))) t = cntF (fun s => decide (0 < hl 3 (q * 4 + s))) (t + 1) from by simp [cntF, c63]]
        exact ih (t + 1) (by omega)
      · refine x_iinc (v := nI (cntF (fun s => decide (0 < hl 3 (q * 4 + s))) t + 1)) (ls' := [(4, .int (nI (cntF (fun s => decide (0 < hl 3 (q * 4 + s))) t + 1))), (5, .int (nI t)), (3, .int (nI (cntF (fun q => decide (r (5 + q) = -1)) (hl 0 3)))), (0, .ref j), (1, .ref b), (2, .int (nI q))]) dX5_tellMender_66 1 rfl (nIs _) (by decide) rfl ?_
        refine x_iinc (v := nI (t + 1)) (ls' := [(5, .int (nI (t + 1))), (4, .int (nI (cntF (fun s => decide (0 < hl 3 (q * 4 + s))) t + 1))), (3, .int (nI (cntF (fun q => decide (r (5 + q) = -1)) (hl 0 3)))), (0, .ref j), (1, .ref b), (2, .int (nI q))]) dX5_tellMender_69 1 rfl (nIs _) (by decide) rfl ?_
        refine x_goto (tgt := 41) dX5_tellMender_72 (by decide) ?_
        rw [show cntF (fun s => decide (0 < hl 3 (q * 4 + s))) t + 1 = cntF (fun s => decide (0 < hl 3 (q * 4 + s))) (t + 1) from by simp [cntF, c63]]
        exact ih (t + 1) (by omega)
theorem Judge_tellMender_l1 {K : xG} {h b j jd : Nat} {G : xHp} {hl : xHl} {r : xRw} {ru : Option Nat} {wd sk : Nat → Int64} {q : Nat} (hD : DayAt G b hl r jd ru) (hJ : JudgeAt G j wd sk) (hO : HallOk hl) (hne : j + 3 ≤ b ∨ b + 10 ≤ j) (hq : q < 4) : ∀ (k t : Nat), t + k = hl 0 3 → xV K mX5_tellMender 1 0 0 h G 5 [(4, .int (nI t)), (3, .int (nI (cntF (fun q => decide (r (5 + q) = -1)) t))), (0, .ref j), (1, .ref b), (2, .int (nI q))] [] (xRet none h (xup G (j + 1) (eJ 12 (tmW hl r q wd)))) := by
  have hB := hD.2.1.2.2.2.2.2.2.2.2
  obtain ⟨o2, o3, o4, -⟩ := id hO
  intro k
  induction k with
  | zero =>
    intro t hv
    have hv0 : t = hl 0 3 := by omega
    subst hv0
    refine x_iload dX5_tellMender_5 0 rfl ?_
    refine x_aload_n dX5_tellMender_7 3 rfl ?_
    refine x_get dX5_tellMender_8 fX5_30 (hD.1) rfl ?_
    refine x_get dX5_tellMender_11 fX5_56 (hD.2.1.1) rfl ?_
    refine x_icmpN_ge (tgt := 35) dX5_tellMender_14 (by decide) (by have := hB 0 2; have := hB 0 3; have := hB 0 4; omega) (by have := hB 0 2; have := hB 0 3; have := hB 0 4; omega) (fun c14 => ?_) (fun c14 => ?_)
    · refine x_iconst dX5_tellMender_35 ki_0 ?_
      refine x_istore (ls' := [(4, .int (nI 0)), (3, .int (nI (cntF (fun q => decide (r (5 + q) = -1)) (hl 0 3)))), (0, .ref j), (1, .ref b), (2, .int (nI q))]) dX5_tellMender_36 (by decide) rfl ?_
      refine x_iconst dX5_tellMender_38 ki_0 ?_
      refine x_istore (ls' := [(5, .int (nI 0)), (4, .int (nI 0)), (3, .int (nI (cntF (fun q => decide (r (5 + q) = -1)) (hl 0 3)))), (0, .ref j), (1, .ref b), (2, .int (nI q))]) dX5_tellMender_39 (by decide) rfl ?_
      exact Judge_tellMender_l2 hD hJ hO hne hq (hl 0 2) 0 (by omega)
    · exact absurd c14 (by omega)
  | succ k ih =>
    intro t hv
    refine x_iload dX5_tellMender_5 0 rfl ?_
    refine x_aload_n dX5_tellMender_7 3 rfl ?_
    refine x_get dX5_tellMender_8 fX5_30 (hD.1) rfl ?_
    refine x_get dX5_tellMender_11 fX5_56 (hD.2.1.1) rfl ?_
    refine x_icmpN_ge (tgt := 35) dX5_tellMender_14 (by decide) (by have := hB 0 2; have := hB 0 3; have := hB 0 4; omega) (by have := hB 0 2; have := hB 0 3; have := hB 0 4; omega) (fun c14 => ?_) (fun c14 => ?_)
    · exact absurd c14 (by omega)
    · refine x_aload_n dX5_tellMender_17 3 rfl ?_
      refine x_iload dX5_tellMender_18 0 rfl ?_
      refine x_cV (N := mX2_isFree) (d' := 0) (mc := 0) (ms := 0) (cb := 0) (sb := 0) (As := [.int (nI t)]) (st := []) dX5_tellMender_20 mX2_isFree_v lX5_59 rfl rfl (hD.1) rfl (by decide) (Nat.le_of_ble_eq_true rfl) (Day_isFree hD (by omega)) rfl (st1 := [.int (bI (decide (r (5 + t) = -1)))]) rfl ?_
      refine x_ifB_eq (tgt := 29) dX5_tellMender_23 (by decide) (fun c23 => ?_) (fun c23 => ?_)
      · refine x_pc (pc' := 29) rfl ?_
        refine x_iinc (v := nI (t + 1)) (ls' := [(4, .int (nI (t + 1))), (3, .int (nI (cntF (fun q => decide (r (5 + q) = -1)) t))), (0, .ref j), (1, .ref b), (2, .int (nI q))]) dX5_tellMender_29 0 rfl (nIs _) (by decide) rfl ?_
        refine x_goto (tgt := 5) dX5_tellMender_32 (by decide) ?_
        rw [show cntF (fun q => decide (r (5 + q) = -1)) t = cntF (fun q => decide (r (5 + q) = -1)) (t + 1) from cntF_f c23]
        exact ih (t + 1) (by omega)
      · refine x_pc (pc' := 26) rfl ?_
        refine x_iinc (v := nI (cntF (fun q => decide (r (5 + q) = -1)) t + 1)) (ls' := [(3, .int (nI (cntF (fun q => decide (r (5 + q) = -1)) t + 1))), (4, .int (nI t)), (0, .ref j), (1, .ref b), (2, .int (nI q))]) dX5_tellMender_26 1 rfl (nIs _) (by decide) rfl ?_
        refine x_iinc (v := nI (t + 1)) (ls' := [(4, .int (nI (t + 1))), (3, .int (nI (cntF (fun q => decide (r (5 + q) = -1)) t + 1))), (0, .ref j), (1, .ref b), (2, .int (nI q))]) dX5_tellMender_29 1 rfl (nIs _) (by decide) rfl ?_
        refine x_goto (tgt := 5) dX5_tellMender_32 (by decide) ?_
        rw [show cntF (fun q => decide (r (5 + q) = -1)) t + 1 = cntF (fun q => decide (r (5 + q) = -1)) (t + 1) from cntF_t c23]
        exact ih (t + 1) (by omega)
theorem Judge_tellMender {K : xG} {h b j jd : Nat} {G : xHp} {hl : xHl} {r : xRw} {ru : Option Nat} {wd sk : Nat → Int64} {q : Nat} (hD : DayAt G b hl r jd ru) (hJ : JudgeAt G j wd sk) (hO : HallOk hl) (hne : j + 3 ≤ b ∨ b + 10 ≤ j) (hq : q < 4) : xCall K mX5_tellMender 1 0 0 [.ref j, .ref b, .int (nI q)] h G (xRet none h (xup G (j + 1) (eJ 12 (tmW hl r q wd)))) := by
  refine x_entry (by decide) (ls := [(0, .ref j), (1, .ref b), (2, .int (nI q))]) rfl (Nat.le_of_ble_eq_true rfl) ?_
  refine x_iconst dX5_tellMender_0 ki_0 ?_
  refine x_istore_n (ls' := [(3, .int (nI 0)), (0, .ref j), (1, .ref b), (2, .int (nI q))]) dX5_tellMender_1 (by decide) rfl ?_
  refine x_iconst dX5_tellMender_2 ki_0 ?_
  refine x_istore (ls' := [(4, .int (nI 0)), (3, .int (nI 0)), (0, .ref j), (1, .ref b), (2, .int (nI q))]) dX5_tellMender_3 (by decide) rfl ?_
  exact Judge_tellMender_l1 hD hJ hO hne hq (hl 0 3) 0 (by omega)
theorem Judge_tellThing {K : xG} {h b j jd : Nat} {G : xHp} {hl : xHl} {r : xRw} {ru : Option Nat} {wd sk : Nat → Int64} {q t : Nat} (hD : DayAt G b hl r jd ru) (hJ : JudgeAt G j wd sk) (hO : HallOk hl) (hne : j + 3 ≤ b ∨ b + 10 ≤ j) (hq : q < 4) (ht : t < 7) (hs : hl 4 t < 4) : xCall K mX5_tellThing 1 0 0 [.ref j, .ref b, .int (nI q), .int (nI t)] h G (xRet none h (xup G (j + 1) (eJ 12 (ttW hl r q t wd)))) := by
  refine x_entry (by decide) (ls := [(0, .ref j), (1, .ref b), (2, .int (nI q)), (3, .int (nI t))]) rfl (Nat.le_of_ble_eq_true rfl) ?_
  refine x_aload_n dX5_tellThing_0 1 rfl ?_
  refine x_get dX5_tellThing_1 fX5_30 (hD.1) rfl ?_
  refine x_get dX5_tellThing_4 fX5_85 (hD.2.1.1) rfl ?_
  refine x_iload_n dX5_tellThing_7 3 rfl ?_
  refine x_ialdN dX5_tellThing_8 (hD.2.1.2.2.2.2.1) (by omega) (by decide) ?_
  refine x_istore (ls' := [(4, .int (nI (hl 4 t))), (0, .ref j), (1, .ref b), (2, .int (nI q)), (3, .int (nI t))]) dX5_tellThing_9 (by decide) rfl ?_
  refine x_aload_n dX5_tellThing_11 1 rfl ?_
  refine x_get dX5_tellThing_12 fX5_11 (hJ.1) rfl ?_
  refine x_iconst dX5_tellThing_15 ki_1 ?_
  refine x_pc (pc' := 16) rfl ?_
  refine x_iload_n dX5_tellThing_16 4 rfl ?_
  refine x_i2l dX5_tellThing_17 ?_
  refine x_lastN dX5_tellThing_18 (hJ.2.1) (by decide) (by decide) ?_
  refine x_aload_n dX5_tellThing_19 1 rfl ?_
  refine x_get dX5_tellThing_20 fX5_11 (xup_of (by omega) (hJ.1)) rfl ?_
  refine x_iconst dX5_tellThing_23 ki_2 ?_
  refine x_iload dX5_tellThing_24 0 rfl ?_
  refine x_i2l dX5_tellThing_26 ?_
  refine x_lastN dX5_tellThing_27 (xup_eq) (by decide) (by decide) ?_
  refine x_geq xup_up ?_
  refine x_aload_n dX5_tellThing_28 1 rfl ?_
  refine x_pc (pc' := 29) rfl ?_
  refine x_get dX5_tellThing_29 fX5_11 (xup_of (by omega) (hJ.1)) rfl ?_
  refine x_iconst dX5_tellThing_32 ki_3 ?_
  refine x_aload_n dX5_tellThing_33 2 rfl ?_
  refine x_get dX5_tellThing_34 fX5_30 (xup_of (by omega) (hD.1)) rfl ?_
  refine x_get dX5_tellThing_37 fX5_88 (xup_of (by omega) (hD.2.1.1)) rfl ?_
  refine x_iload_n dX5_tellThing_40 4 rfl ?_
  refine x_ialdN dX5_tellThing_41 (xup_of (by omega) (hD.2.1.2.2.2.2.2.2.1)) (by omega) (by decide) ?_
  refine x_i2l dX5_tellThing_42 ?_
  refine x_lastN dX5_tellThing_43 (xup_eq) (by decide) (by decide) ?_
  refine x_geq xup_up ?_
  refine x_aload_n dX5_tellThing_44 1 rfl ?_
  refine x_pc (pc' := 45) rfl ?_
  refine x_get dX5_tellThing_45 fX5_11 (xup_of (by omega) (hJ.1)) rfl ?_
  refine x_iconst dX5_tellThing_48 ki_4 ?_
  refine x_aload_n dX5_tellThing_49 2 rfl ?_
  refine x_get dX5_tellThing_50 fX5_82 (xup_of (by omega) (hD.1)) rfl ?_
  refine x_iconst dX5_tellThing_53 ki_0 ?_
  refine x_ialdN dX5_tellThing_54 (xup_of (by omega) (hD.2.2)) (by decide) (by decide) ?_
  refine x_aload_n dX5_tellThing_55 2 rfl ?_
  refine x_get dX5_tellThing_56 fX5_30 (xup_of (by omega) (hD.1)) rfl ?_
  refine x_get dX5_tellThing_59 fX5_44 (xup_of (by omega) (hD.2.1.1)) rfl ?_
  refine x_iload_n dX5_tellThing_62 4 rfl ?_
  refine x_pc (pc' := 63) rfl ?_
  refine x_ialdN dX5_tellThing_63 (xup_of (by omega) (hD.2.1.2.2.2.2.2.1)) (by omega) (by decide) ?_
  refine x_isub dX5_tellThing_64 ?_
  refine x_i2l dX5_tellThing_65 ?_
  refine x_lastN dX5_tellThing_66 (xup_eq) (by decide) (by decide) ?_
  refine x_geq xup_up ?_
  refine x_aload_n dX5_tellThing_67 1 rfl ?_
  refine x_get dX5_tellThing_68 fX5_11 (xup_of (by omega) (hJ.1)) rfl ?_
  refine x_iconst dX5_tellThing_71 ki_5 ?_
  refine x_aload_n dX5_tellThing_72 2 rfl ?_
  refine x_iload_n dX5_tellThing_73 3 rfl ?_
  refine x_iload_n dX5_tellThing_74 4 rfl ?_
  refine x_pc (pc' := 75) rfl ?_
  refine x_cV (N := mX2_effort) (d' := 0) (mc := 0) (ms := 0) (cb := 0) (sb := 0) (As := [.int (nI q), .int (nI t)]) (st := [.int (nI 5), .ref (j + 1)]) dX5_tellThing_75 mX2_effort_v lX5_91 rfl rfl (xup_of (by omega) (hD.1)) rfl (by decide) (Nat.le_of_ble_eq_true rfl) (Day_effort (hD.off (by omega)) hq ht hs) rfl (st1 := [.int (nI (effS hl q t)), .int (nI 5), .ref (j + 1)]) rfl ?_
  refine x_i2l dX5_tellThing_78 ?_
  refine x_lastN dX5_tellThing_79 (xup_eq) (by decide) (by decide) ?_
  refine x_geq xup_up ?_
  refine x_aload_n dX5_tellThing_80 1 rfl ?_
  refine x_get dX5_tellThing_81 fX5_11 (xup_of (by omega) (hJ.1)) rfl ?_
  refine x_bipush dX5_tellThing_84 kb_6 ?_
  refine x_aload_n dX5_tellThing_86 2 rfl ?_
  refine x_get dX5_tellThing_87 fX5_30 (xup_of (by omega) (hD.1)) rfl ?_
  refine x_get dX5_tellThing_90 fX5_94 (xup_of (by omega) (hD.2.1.1)) rfl ?_
  refine x_iload_n dX5_tellThing_93 4 rfl ?_
  refine x_pc (pc' := 94) rfl ?_
  refine x_ialdN dX5_tellThing_94 (xup_of (by omega) (hD.2.1.2.2.2.2.2.2.2.1)) (by omega) (by decide) ?_
  refine x_i2l dX5_tellThing_95 ?_
  refine x_lastN dX5_tellThing_96 (xup_eq) (by decide) (by decide) ?_
  refine x_geq xup_up ?_
  refine x_aload_n dX5_tellThing_97 1 rfl ?_
  refine x_get dX5_tellThing_98 fX5_11 (xup_of (by omega) (hJ.1)) rfl ?_
  refine x_bipush dX5_tellThing_101 kb_7 ?_
  refine x_aload_n dX5_tellThing_103 2 rfl ?_
  refine x_get dX5_tellThing_104 fX5_82 (xup_of (by omega) (hD.1)) rfl ?_
  refine x_iconst dX5_tellThing_107 ki_1 ?_
  refine x_iload dX5_tellThing_108 0 rfl ?_
  refine x_pc (pc' := 110) rfl ?_
  refine x_iaddN dX5_tellThing_110 ?_
  refine x_ialdN dX5_tellThing_111 (xup_of (by omega) (hD.2.2)) (by omega) (by decide) ?_
  refine x_i2l dX5_tellThing_112 ?_
  refine x_lastN dX5_tellThing_113 (xup_eq) (by decide) (by decide) ?_
  refine x_geq xup_up ?_
  exact x_vret dX5_tellThing_114 rfl (xRet_i)
theorem Judge_choose_n1 {K : xG} {h b j jd : Nat} {G : xHp} {hl : xHl} {r : xRw} {wd sk : Nat → Int64} {q : Nat} (hD : DayAt G b hl r jd none) (hJ : JudgeAt G j wd sk) (hO : HallOk hl) (hne : j + 3 ≤ b ∨ b + 10 ≤ j) (hq : q < 4) : ∀ (k t : Nat), t + k = hl 0 4 → xV K mX5_choose 2 0 0 h G 21 [(6, .int (nI t)), (4, .long ((chF (canT hl r q) (keyOf hl none r q) t).2)), (3, .int (chI (chF (canT hl r q) (keyOf hl none r q) t).1)), (0, .ref j), (1, .ref b), (2, .int (nI q))] [] (xRet (some (.int (chI (choice hl none r q)))) h G) := by
  have hB := hD.2.1.2.2.2.2.2.2.2.2
  obtain ⟨o2, o3, o4, o5, -⟩ := id hO
  intro k
  induction k with
  | zero =>
    intro t hv
    have hv0 : t = hl 0 4 := by omega
    subst hv0
    refine x_iload dX5_choose_21 0 rfl ?_
    refine x_aload_n dX5_choose_23 4 rfl ?_
    refine x_get dX5_choose_24 fX5_30 (hD.1) rfl ?_
    refine x_get dX5_choose_27 fX5_34 (hD.2.1.1) rfl ?_
    refine x_icmpN_ge (tgt := 113) dX5_choose_30 (by decide) (by have := hB 0 2; have := hB 0 3; have := hB 0 4; omega) (by have := hB 0 2; have := hB 0 3; have := hB 0 4; omega) (fun c30 => ?_) (fun c30 => ?_)
    · refine x_iload_n dX5_choose_113 2 rfl ?_
      exact x_iret dX5_choose_114 rfl (xRet_i)
    · exact absurd c30 (by omega)
  | succ k ih =>
    intro t hv
    refine x_iload dX5_choose_21 0 rfl ?_
    refine x_aload_n dX5_choose_23 4 rfl ?_
    refine x_get dX5_choose_24 fX5_30 (hD.1) rfl ?_
    refine x_get dX5_choose_27 fX5_34 (hD.2.1.1) rfl ?_
    refine x_icmpN_ge (tgt := 113) dX5_choose_30 (by decide) (by have := hB 0 2; have := hB 0 3; have := hB 0 4; omega) (by have := hB 0 2; have := hB 0 3; have := hB 0 4; omega) (fun c30 => ?_) (fun c30 => ?_)
    · exact absurd c30 (by omega)
    · refine x_aload_n dX5_choose_33 4 rfl ?_
      refine x_iload_n dX5_choose_34 5 rfl ?_
      refine x_iload dX5_choose_35 0 rfl ?_
      refine x_cV (N := mX2_canTake) (d' := 1) (mc := 0) (ms := 0) (cb := 0) (sb := 0) (As := [.int (nI q), .int (nI t)]) (st := []) dX5_choose_37 mX2_canTake_v lX5_40 rfl rfl (hD.1) rfl (by decide) (Nat.le_of_ble_eq_true rfl) (Day_canTake hD hq (by omega) (by have := (o5 t (by omega)).1; omega)) rfl (st1 := [.int (bI (canT hl r q t))]) rfl ?_
      refine x_pc (pc' := 40) rfl ?_
      refine x_ifB_eq (tgt := 107) dX5_choose_40 (by decide) (fun c40 => ?_) (fun c40 => ?_)
      · refine x_iinc (v := nI (t + 1)) (ls' := [(6, .int (nI (t + 1))), (4, .long ((chF (canT hl r q) (keyOf hl none r q) t).2)), (3, .int (chI (chF (canT hl r q) (keyOf hl none r q) t).1)), (0, .ref j), (1, .ref b), (2, .int (nI q))]) dX5_choose_107 0 rfl (nIs _) (by decide) rfl ?_
        refine x_goto (tgt := 21) dX5_choose_110 (by decide) ?_
        have hch : chF (canT hl r q) (keyOf hl none r q) (t + 1) = chF (canT hl r q) (keyOf hl none r q) t := if_neg (fun q => by rw [c40] at q; exact absurd q.1 (by decide))
        refine x_leq (ls' := [(6, .int (nI (t + 1))), (4, .long ((chF (canT hl r q) (keyOf hl none r q) (t + 1)).2)), (3, .int (chI (chF (canT hl r q) (keyOf hl none r q) (t + 1)).1)), (0, .ref j), (1, .ref b), (2, .int (nI q))]) (by rw [hch]; try rfl) ?_
        exact ih (t + 1) (by omega)
      · refine x_sipush dX5_choose_43 ks_1000 ?_
        refine x_aload_n dX5_choose_46 4 rfl ?_
        refine x_get dX5_choose_47 fX5_30 (hD.1) rfl ?_
        refine x_get dX5_choose_50 fX5_44 (hD.2.1.1) rfl ?_
        refine x_iload dX5_choose_53 0 rfl ?_
        refine x_ialdN dX5_choose_55 (hD.2.1.2.2.2.2.2.1) (by omega) (by decide) ?_
        refine x_isub dX5_choose_56 ?_
        refine x_i2l dX5_choose_57 ?_
        refine x_lstore (ls' := [(7, .long (((nI 1000) - (nI (hl 5 t))).toInt64)), (6, .int (nI t)), (4, .long ((chF (canT hl r q) (keyOf hl none r q) t).2)), (3, .int (chI (chF (canT hl r q) (keyOf hl none r q) t).1)), (0, .ref j), (1, .ref b), (2, .int (nI q))]) dX5_choose_58 (by decide) rfl ?_
        refine x_pc (pc' := 60) rfl ?_
        refine x_aload_n dX5_choose_60 5 rfl ?_
        refine x_get dX5_choose_61 fX5_20 (hD.1) rfl ?_
        refine x_ifnull (r := none) (tgt := 92) dX5_choose_64 (by decide) (fun _ => ?_) (fun _ q => absurd q (by simp))
        refine x_lload dX5_choose_92 0 rfl ?_
        refine x_lload dX5_choose_94 2 rfl ?_
        refine x_lcmp dX5_choose_96 ?_
        refine x_if_le (tgt := 107) dX5_choose_97 (by decide) (fun c97 => ?_) (fun c97 => ?_)
        · refine x_iinc (v := nI (t + 1)) (ls' := [(6, .int (nI (t + 1))), (7, .long (((nI 1000) - (nI (hl 5 t))).toInt64)), (4, .long ((chF (canT hl r q) (keyOf hl none r q) t).2)), (3, .int (chI (chF (canT hl r q) (keyOf hl none r q) t).1)), (0, .ref j), (1, .ref b), (2, .int (nI q))]) dX5_choose_107 1 rfl (nIs _) (by decide) rfl ?_
          refine x_goto (tgt := 21) dX5_choose_110 (by decide) ?_
          refine x_perm (ls' := [(6, .int (nI (t + 1))), (4, .long ((chF (canT hl r q) (keyOf hl none r q) t).2)), (3, .int (chI (chF (canT hl r q) (keyOf hl none r q) t).1)), (0, .ref j), (1, .ref b), (2, .int (nI q))]) [0, 2, 3, 4, 5, 6] rfl ?_
          have hch : chF (canT hl r q) (keyOf hl none r q) (t + 1) = chF (canT hl r q) (keyOf hl none r q) t := if_neg (fun q => absurd q.2 (Int64.not_lt.mpr ((lg_cmp_le _ _).mp c97)))
          refine x_leq (ls' := [(6, .int (nI (t + 1))), (4, .long ((chF (canT hl r q) (keyOf hl none r q) (t + 1)).2)), (3, .int (chI (chF (canT hl r q) (keyOf hl none r q) (t + 1)).1)), (0, .ref j), (1, .ref b), (2, .int (nI q))]) (by rw [hch]; try rfl) ?_
          exact ih (t + 1) (by omega)
        · refine x_lload dX5_choose_100 0 rfl ?_
          refine x_lstore (ls' := [(4, .long (((nI 1000) - (nI (hl 5 t))).toInt64)), (7, .long (((nI 1000) - (nI (hl 5 t))).toInt64)), (6, .int (nI t)), (3, .int (chI (chF (canT hl r q) (keyOf hl none r q) t).1)), (0, .ref j), (1, .ref b), (2, .int (nI q))]) dX5_choose_102 (by decide) rfl ?_
          refine x_iload dX5_choose_104 2 rfl ?_
          refine x_pc (pc' := 106) rfl ?_
          refine x_istore_n (ls' := [(3, .int (nI t)), (4, .long (((nI 1000) - (nI (hl 5 t))).toInt64)), (7, .long (((nI 1000) - (nI (hl 5 t))).toInt64)), (6, .int (nI t)), (0, .ref j), (1, .ref b), (2, .int (nI q))]) dX5_choose_106 (by decide) rfl ?_
          refine x_iinc (v := nI (t + 1)) (ls' := [(6, .int (nI (t + 1))), (3, .int (nI t)), (4, .long (((nI 1000) - (nI (hl 5 t))).toInt64)), (7, .long (((nI 1000) - (nI (hl 5 t))).toInt64)), (0, .ref j), (1, .ref b), (2, .int (nI q))]) dX5_choose_107 3 rfl (nIs _) (by decide) rfl ?_
          refine x_goto (tgt := 21) dX5_choose_110 (by decide) ?_
          refine x_perm (ls' := [(6, .int (nI (t + 1))), (4, .long (((nI 1000) - (nI (hl 5 t))).toInt64)), (3, .int (nI t)), (0, .ref j), (1, .ref b), (2, .int (nI q))]) [0, 2, 1, 4, 5, 6] rfl ?_
          have hch : chF (canT hl r q) (keyOf hl none r q) (t + 1) = (some t, keyOf hl none r q t) := if_pos ⟨c40, Int64.not_le.mp (fun q => c97 ((lg_cmp_le _ _).mpr q))⟩
          refine x_leq (ls' := [(6, .int (nI (t + 1))), (4, .long ((chF (canT hl r q) (keyOf hl none r q) (t + 1)).2)), (3, .int (chI (chF (canT hl r q) (keyOf hl none r q) (t + 1)).1)), (0, .ref j), (1, .ref b), (2, .int (nI q))]) (by rw [hch]; try rfl) ?_
          exact ih (t + 1) (by omega)
theorem Judge_choose_n {K : xG} {h b j jd : Nat} {G : xHp} {hl : xHl} {r : xRw} {wd sk : Nat → Int64} {q : Nat} (hD : DayAt G b hl r jd none) (hJ : JudgeAt G j wd sk) (hO : HallOk hl) (hne : j + 3 ≤ b ∨ b + 10 ≤ j) (hq : q < 4) : xCall K mX5_choose 2 0 0 [.ref j, .ref b, .int (nI q)] h G (xRet (some (.int (chI (choice hl none r q)))) h G) := by
  refine x_entry (by decide) (ls := [(0, .ref j), (1, .ref b), (2, .int (nI q))]) rfl (Nat.le_of_ble_eq_true rfl) ?_
  refine x_iconst dX5_choose_0 ki_m1 ?_
  refine x_istore_n (ls' := [(3, .int (-1)), (0, .ref j), (1, .ref b), (2, .int (nI q))]) dX5_choose_1 (by decide) rfl ?_
  refine x_lconst (v := 0) dX5_choose_2 rfl ?_
  refine x_lstore (ls' := [(4, .long 0), (3, .int (-1)), (0, .ref j), (1, .ref b), (2, .int (nI q))]) dX5_choose_3 (by decide) rfl ?_
  refine x_aload_n dX5_choose_5 3 rfl ?_
  refine x_get dX5_choose_6 fX5_20 (hD.1) rfl ?_
  refine x_ifnull (r := none) (tgt := 18) dX5_choose_9 (by decide) (fun _ => ?_) (fun _ q => absurd q (by simp))
  refine x_iconst dX5_choose_18 ki_0 ?_
  refine x_istore (ls' := [(6, .int (nI 0)), (4, .long 0), (3, .int (-1)), (0, .ref j), (1, .ref b), (2, .int (nI q))]) dX5_choose_19 (by decide) rfl ?_
  exact Judge_choose_n1 hD hJ hO hne hq (hl 0 4) 0 (by omega)
theorem Judge_choose_s1 {K : xG} {h b j jd ra : Nat} {G : xHp} {hl : xHl} {r : xRw} {wd sk : Nat → Int64} {q : Nat} {sp : List Nat} (hD : DayAt G b hl r jd (some ra)) (hJ : JudgeAt G j wd sk) (hR : RuleAt G ra sp) (hO : HallOk hl) (hne : j + 3 ≤ b ∨ b + 10 ≤ j) (hra : (ra + 2 ≤ j ∨ j + 3 ≤ ra) ∧ (ra + 2 ≤ b ∨ b + 10 ≤ ra)) (hq : q < 4) : ∀ (k t : Nat) (wx sx : Nat → Int64), t + k = hl 0 4 → mdOk hl r q wx → xV K mX5_choose 2 0 0 h (xup (xup G (j + 1) (eJ 12 wx)) (j + 2) (eJ 32 sx)) 21 [(6, .int (nI t)), (4, .long ((chF (canT hl r q) (keyOf hl (some sp) r q) t).2)), (3, .int (chI (chF (canT hl r q) (keyOf hl (some sp) r q) t).1)), (0, .ref j), (1, .ref b), (2, .int (nI q))] [] (xEx (fun _ : (Nat → Int64) × (Nat → Int64) => True) (fun _ => some (.int (chI (choice hl (some sp) r q)))) (fun _ => h) (fun e => xup (xup G (j + 1) (eJ 12 e.1)) (j + 2) (eJ 32 e.2))) := by
  have hB := hD.2.1.2.2.2.2.2.2.2.2
  obtain ⟨o2, o3, o4, o5, -⟩ := id hO
  intro k
  induction k with
  | zero =>
    intro t wx sx hv hmd
    have hv0 : t = hl 0 4 := by omega
    subst hv0
    refine x_iload dX5_choose_21 0 rfl ?_
    refine x_aload_n dX5_choose_23 4 rfl ?_
    refine x_get dX5_choose_24 fX5_30 (xup_of (by omega) (xup_of (by omega) (hD.1))) rfl ?_
    refine x_get dX5_choose_27 fX5_34 (xup_of (by omega) (xup_of (by omega) (hD.2.1.1))) rfl ?_
    refine x_icmpN_ge (tgt := 113) dX5_choose_30 (by decide) (by have := hB 0 2; have := hB 0 3; have := hB 0 4; omega) (by have := hB 0 2; have := hB 0 3; have := hB 0 4; omega) (fun c30 => ?_) (fun c30 => ?_)
    · refine x_iload_n dX5_choose_113 2 rfl ?_
      exact x_iret dX5_choose_114 rfl (xEx_i (wx, sx) trivial rfl rfl rfl)
    · exact absurd c30 (by omega)
  | succ k ih =>
    intro t wx sx hv hmd
    refine x_iload dX5_choose_21 0 rfl ?_
    refine x_aload_n dX5_choose_23 4 rfl ?_
    refine x_get dX5_choose_24 fX5_30 (xup_of (by omega) (xup_of (by omega) (hD.1))) rfl ?_
    refine x_get dX5_choose_27 fX5_34 (xup_of (by omega) (xup_of (by omega) (hD.2.1.1))) rfl ?_
    refine x_icmpN_ge (tgt := 113) dX5_choose_30 (by decide) (by have := hB 0 2; have := hB 0 3; have := hB 0 4; omega) (by have := hB 0 2; have := hB 0 3; have := hB 0 4; omega) (fun c30 => ?_) (fun c30 => ?_)
    · exact absurd c30 (by omega)
    · refine x_aload_n dX5_choose_33 4 rfl ?_
      refine x_iload_n dX5_choose_34 5 rfl ?_
      refine x_iload dX5_choose_35 0 rfl ?_
      refine x_cV (N := mX2_canTake) (d' := 1) (mc := 0) (ms := 0) (cb := 0) (sb := 0) (As := [.int (nI q), .int (nI t)]) (st := []) dX5_choose_37 mX2_canTake_v lX5_40 rfl rfl (xup_of (by omega) (xup_of (by omega) (hD.1))) rfl (by decide) (Nat.le_of_ble_eq_true rfl) (Day_canTake ((hD.off (by omega)).off (by omega)) hq (by omega) (by have := (o5 t (by omega)).1; omega)) rfl (st1 := [.int (bI (canT hl r q t))]) rfl ?_
      refine x_pc (pc' := 40) rfl ?_
      refine x_ifB_eq (tgt := 107) dX5_choose_40 (by decide) (fun c40 => ?_) (fun c40 => ?_)
      · refine x_iinc (v := nI (t + 1)) (ls' := [(6, .int (nI (t + 1))), (4, .long ((chF (canT hl r q) (keyOf hl (some sp) r q) t).2)), (3, .int (chI (chF (canT hl r q) (keyOf hl (some sp) r q) t).1)), (0, .ref j), (1, .ref b), (2, .int (nI q))]) dX5_choose_107 0 rfl (nIs _) (by decide) rfl ?_
        refine x_goto (tgt := 21) dX5_choose_110 (by decide) ?_
        have hch : chF (canT hl r q) (keyOf hl (some sp) r q) (t + 1) = chF (canT hl r q) (keyOf hl (some sp) r q) t := if_neg (fun q => by rw [c40] at q; exact absurd q.1 (by decide))
        refine x_leq (ls' := [(6, .int (nI (t + 1))), (4, .long ((chF (canT hl r q) (keyOf hl (some sp) r q) (t + 1)).2)), (3, .int (chI (chF (canT hl r q) (keyOf hl (some sp) r q) (t + 1)).1)), (0, .ref j), (1, .ref b), (2, .int (nI q))]) (by rw [hch]; try rfl) ?_
        exact ih (t + 1) wx sx (by omega) hmd
      · refine x_sipush dX5_choose_43 ks_1000 ?_
        refine x_aload_n dX5_choose_46 4 rfl ?_
        refine x_get dX5_choose_47 fX5_30 (xup_of (by omega) (xup_of (by omega) (hD.1))) rfl ?_
        refine x_get dX5_choose_50 fX5_44 (xup_of (by omega) (xup_of (by omega) (hD.2.1.1))) rfl ?_
        refine x_iload dX5_choose_53 0 rfl ?_
        refine x_ialdN dX5_choose_55 (xup_of (by omega) (xup_of (by omega) (hD.2.1.2.2.2.2.2.1))) (by omega) (by decide) ?_
        refine x_isub dX5_choose_56 ?_
        refine x_i2l dX5_choose_57 ?_
        refine x_lstore (ls' := [(7, .long (((nI 1000) - (nI (hl 5 t))).toInt64)), (6, .int (nI t)), (4, .long ((chF (canT hl r q) (keyOf hl (some sp) r q) t).2)), (3, .int (chI (chF (canT hl r q) (keyOf hl (some sp) r q) t).1)), (0, .ref j), (1, .ref b), (2, .int (nI q))]) dX5_choose_58 (by decide) rfl ?_
        refine x_pc (pc' := 60) rfl ?_
        refine x_aload_n dX5_choose_60 5 rfl ?_
        refine x_get dX5_choose_61 fX5_20 (xup_of (by omega) (xup_of (by omega) (hD.1))) rfl ?_
        refine x_ifnull (r := some ra) (tgt := 92) dX5_choose_64 (by decide) (fun q => absurd q (by simp)) (fun _ _ => ?_)
        refine x_aload_n dX5_choose_67 4 rfl ?_
        refine x_aload_n dX5_choose_68 5 rfl ?_
        refine x_iload_n dX5_choose_69 6 rfl ?_
        refine x_iload dX5_choose_70 1 rfl ?_
        refine x_cV (N := mX5_tellThing) (d' := 1) (mc := 0) (ms := 0) (cb := 0) (sb := 0) (As := [.ref b, .int (nI q), .int (nI t)]) (st := []) dX5_choose_72 mX5_tellThing_v lX5_48 rfl rfl (xup_of (by omega) (xup_of (by omega) (hJ.1))) rfl (by decide) (Nat.le_of_ble_eq_true rfl) (Judge_tellThing ((hD.off (by omega)).off (by omega)) ((hJ.w wx).s sx) hO hne hq (by omega) (by have := (o5 t (by omega)).1; omega)) rfl (st1 := []) rfl ?_
        refine x_geq (xup_dig (by omega)) ?_
        refine x_aload_n dX5_choose_75 5 rfl ?_
        refine x_get dX5_choose_76 fX5_20 (xup_of (by omega) (xup_of (by omega) (hD.1))) rfl ?_
        refine x_pc (pc' := 79) rfl ?_
        refine x_aload_n dX5_choose_79 4 rfl ?_
        refine x_get dX5_choose_80 fX5_11 (xup_of (by omega) (xup_of (by omega) (hJ.1))) rfl ?_
        refine x_aload_n dX5_choose_83 4 rfl ?_
        refine x_get dX5_choose_84 fX5_17 (xup_of (by omega) (xup_of (by omega) (hJ.1))) rfl ?_
        refine x_cVe (N := mX8_sum) (d' := 1) (mc := 0) (ms := 0) (cb := 0) (sb := 0) (As := [.ref (j + 1), .ref (j + 2)]) (st := []) dX5_choose_87 mX8_sum_v lX5_52 rfl rfl (xup_of (by omega) (xup_of (by omega) (hR.1))) rfl (by decide) (Nat.le_of_ble_eq_true rfl) (Rule_sum (hR.fr (by rw [xup_ne (by omega), xup_ne (by omega)]) (by rw [xup_ne (by omega), xup_ne (by omega)])) (xup_of (by omega) xup_eq) (by omega) (by omega) (by omega) xup_eq) rfl (sf := fun sy => [.long (evC (ttW hl r q t wx) sp [])]) (fun _ => rfl) (fun sy _ => ?_)
        refine x_geq xup_up ?_
        rw [evC_cong (ttW_all hmd t)]
        refine x_lstore (ls' := [(7, .long (keyOf hl (some sp) r q t)), (6, .int (nI t)), (4, .long ((chF (canT hl r q) (keyOf hl (some sp) r q) t).2)), (3, .int (chI (chF (canT hl r q) (keyOf hl (some sp) r q) t).1)), (0, .ref j), (1, .ref b), (2, .int (nI q))]) dX5_choose_90 (by decide) rfl ?_
        refine x_lload dX5_choose_92 0 rfl ?_
        refine x_lload dX5_choose_94 2 rfl ?_
        refine x_lcmp dX5_choose_96 ?_
        refine x_if_le (tgt := 107) dX5_choose_97 (by decide) (fun c97 => ?_) (fun c97 => ?_)
        · refine x_pc (pc' := 107) rfl ?_
          refine x_iinc (v := nI (t + 1)) (ls' := [(6, .int (nI (t + 1))), (7, .long (keyOf hl (some sp) r q t)), (4, .long ((chF (canT hl r q) (keyOf hl (some sp) r q) t).2)), (3, .int (chI (chF (canT hl r q) (keyOf hl (some sp) r q) t).1)), (0, .ref j), (1, .ref b), (2, .int (nI q))]) dX5_choose_107 1 rfl (nIs _) (by decide) rfl ?_
          refine x_goto (tgt := 21) dX5_choose_110 (by decide) ?_
          refine x_perm (ls' := [(6, .int (nI (t + 1))), (4, .long ((chF (canT hl r q) (keyOf hl (some sp) r q) t).2)), (3, .int (chI (chF (canT hl r q) (keyOf hl (some sp) r q) t).1)), (0, .ref j), (1, .ref b), (2, .int (nI q))]) [0, 2, 3, 4, 5, 6] rfl ?_
          have hch : chF (canT hl r q) (keyOf hl (some sp) r q) (t + 1) = chF (canT hl r q) (keyOf hl (some sp) r q) t := if_neg (fun q => absurd q.2 (Int64.not_lt.mpr ((lg_cmp_le _ _).mp c97)))
          refine x_leq (ls' := [(6, .int (nI (t + 1))), (4, .long ((chF (canT hl r q) (keyOf hl (some sp) r q) (t + 1)).2)), (3, .int (chI (chF (canT hl r q) (keyOf hl (some sp) r q) (t + 1)).1)), (0, .ref j), (1, .ref b), (2, .int (nI q))]) (by rw [hch]; try rfl) ?_
          exact ih (t + 1) (ttW hl r q t wx) sy (by omega) (mdOk_k hmd t)
        · refine x_pc (pc' := 100) rfl ?_
          refine x_lload dX5_choose_100 0 rfl ?_
          refine x_lstore (ls' := [(4, .long (keyOf hl (some sp) r q t)), (7, .long (keyOf hl (some sp) r q t)), (6, .int (nI t)), (3, .int (chI (chF (canT hl r q) (keyOf hl (some sp) r q) t).1)), (0, .ref j), (1, .ref b), (2, .int (nI q))]) dX5_choose_102 (by decide) rfl ?_
          refine x_iload dX5_choose_104 2 rfl ?_
          refine x_istore_n (ls' := [(3, .int (nI t)), (4, .long (keyOf hl (some sp) r q t)), (7, .long (keyOf hl (some sp) r q t)), (6, .int (nI t)), (0, .ref j), (1, .ref b), (2, .int (nI q))]) dX5_choose_106 (by decide) rfl ?_
          refine x_iinc (v := nI (t + 1)) (ls' := [(6, .int (nI (t + 1))), (3, .int (nI t)), (4, .long (keyOf hl (some sp) r q t)), (7, .long (keyOf hl (some sp) r q t)), (0, .ref j), (1, .ref b), (2, .int (nI q))]) dX5_choose_107 3 rfl (nIs _) (by decide) rfl ?_
          refine x_goto (tgt := 21) dX5_choose_110 (by decide) ?_
          refine x_perm (ls' := [(6, .int (nI (t + 1))), (4, .long (keyOf hl (some sp) r q t)), (3, .int (nI t)), (0, .ref j), (1, .ref b), (2, .int (nI q))]) [0, 2, 1, 4, 5, 6] rfl ?_
          have hch : chF (canT hl r q) (keyOf hl (some sp) r q) (t + 1) = (some t, keyOf hl (some sp) r q t) := if_pos ⟨c40, Int64.not_le.mp (fun q => c97 ((lg_cmp_le _ _).mpr q))⟩
          refine x_leq (ls' := [(6, .int (nI (t + 1))), (4, .long ((chF (canT hl r q) (keyOf hl (some sp) r q) (t + 1)).2)), (3, .int (chI (chF (canT hl r q) (keyOf hl (some sp) r q) (t + 1)).1)), (0, .ref j), (1, .ref b), (2, .int (nI q))]) (by rw [hch]; try rfl) ?_
          exact ih (t + 1) (ttW hl r q t wx) sy (by omega) (mdOk_k hmd t)
theorem Judge_choose_s {K : xG} {h b j jd ra : Nat} {G : xHp} {hl : xHl} {r : xRw} {wd sk : Nat → Int64} {q : Nat} {sp : List Nat} (hD : DayAt G b hl r jd (some ra)) (hJ : JudgeAt G j wd sk) (hR : RuleAt G ra sp) (hO : HallOk hl) (hne : j + 3 ≤ b ∨ b + 10 ≤ j) (hra : (ra + 2 ≤ j ∨ j + 3 ≤ ra) ∧ (ra + 2 ≤ b ∨ b + 10 ≤ ra)) (hq : q < 4) : xCall K mX5_choose 2 0 0 [.ref j, .ref b, .int (nI q)] h G (xEx (fun _ : (Nat → Int64) × (Nat → Int64) => True) (fun _ => some (.int (chI (choice hl (some sp) r q)))) (fun _ => h) (fun e => xup (xup G (j + 1) (eJ 12 e.1)) (j + 2) (eJ 32 e.2))) := by
  refine x_entry (by decide) (ls := [(0, .ref j), (1, .ref b), (2, .int (nI q))]) rfl (Nat.le_of_ble_eq_true rfl) ?_
  refine x_iconst dX5_choose_0 ki_m1 ?_
  refine x_istore_n (ls' := [(3, .int (-1)), (0, .ref j), (1, .ref b), (2, .int (nI q))]) dX5_choose_1 (by decide) rfl ?_
  refine x_lconst (v := 0) dX5_choose_2 rfl ?_
  refine x_lstore (ls' := [(4, .long 0), (3, .int (-1)), (0, .ref j), (1, .ref b), (2, .int (nI q))]) dX5_choose_3 (by decide) rfl ?_
  refine x_aload_n dX5_choose_5 3 rfl ?_
  refine x_get dX5_choose_6 fX5_20 (hD.1) rfl ?_
  refine x_ifnull (r := some ra) (tgt := 18) dX5_choose_9 (by decide) (fun q => absurd q (by simp)) (fun _ _ => ?_)
  refine x_aload_n dX5_choose_12 2 rfl ?_
  refine x_aload_n dX5_choose_13 3 rfl ?_
  refine x_pc (pc' := 14) rfl ?_
  refine x_iload_n dX5_choose_14 4 rfl ?_
  refine x_cV (N := mX5_tellMender) (d' := 1) (mc := 0) (ms := 0) (cb := 0) (sb := 0) (As := [.ref b, .int (nI q)]) (st := []) dX5_choose_15 mX5_tellMender_v lX5_26 rfl rfl (hJ.1) rfl (by decide) (Nat.le_of_ble_eq_true rfl) (Judge_tellMender hD hJ hO hne hq) rfl (st1 := []) rfl ?_
  refine x_iconst dX5_choose_18 ki_0 ?_
  refine x_istore (ls' := [(6, .int (nI 0)), (4, .long 0), (3, .int (-1)), (0, .ref j), (1, .ref b), (2, .int (nI q))]) dX5_choose_19 (by decide) rfl ?_
  refine x_geq (xup_same (G := xup G (j + 1) (eJ 12 (tmW hl r q wd))) (a := j + 2) (e := eJ 32 sk) (xup_of (by omega) hJ.2.2)).symm ?_
  exact Judge_choose_s1 hD hJ hR hO hne hra hq (hl 0 4) 0 _ sk (by omega) (mdOk_t hl r q wd)
