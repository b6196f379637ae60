/-! ===== Rule ===== -/
def RuleAt (G : xHp) (a : Nat) (sp : List Nat) : Prop := G a = some (eO 8 [.ref (a + 1)]) ∧ G (a + 1) = some (eI 0 sp.length (fun j => nI (sp.getD j 0))) ∧ (∀ s ∈ sp, s < 2 ^ 31) ∧ sp.length < 1000
theorem RuleAt.fr {G G' : xHp} {a : Nat} {sp : List Nat} (h : RuleAt G a sp) (h1 : G' a = G a) (h2 : G' (a + 1) = G (a + 1)) : RuleAt G' a sp := ⟨h1.trans h.1, h2.trans h.2.1, h.2.2⟩
theorem shr20 {s : Nat} (h : s < 2 ^ 31) : nI s >>> (nI 20 &&& 31) = nI (s / 1048576) := by
  rw [pk_shrN h (nI 20 &&& 31) 20 (by decide)]
theorem and20 {s : Nat} (h : s < 2 ^ 31) : nI s &&& nI 1048575 = nI (s % 1048576) := pk_andN (by omega) 20 (by decide)
def valS (k s : Nat) (wd : Nat → Int64) : Int64 := if k = 0 then (nI (s % 1048576)).toInt64 else if s % 1048576 < 12 then wd (s % 1048576) else 0
def skOk (f : Nat → Int64) : List Int64 → Prop
  | [] => True
  | a :: r => f r.length = a ∧ skOk f r
theorem skOk_up {f : Nat → Int64} {v : Int64} : ∀ {l : List Int64} {k : Nat}, l.length ≤ k → skOk f l → skOk (vp_updL f k v) l
  | [], _, _, _ => trivial
  | a :: r, k, h, hs => by
    simp only [List.length_cons] at h
    exact ⟨by simp only [vp_updL]; rw [if_neg (by omega)]; exact hs.1, skOk_up (by omega) hs.2⟩
theorem evC_val {wd : Nat → Int64} {s : Nat} {ss : List Nat} {stk : List Int64} (h : s / 1048576 ≤ 1) (h2 : stk.length < 32) : evC wd (s :: ss) stk = evC wd ss (valS (s / 1048576) s wd :: stk) := by
  show (if _ then (if _ then _ else _) else _) = _
  rw [if_pos h, if_pos h2]; rfl
theorem evC_valF {wd : Nat → Int64} {s : Nat} {ss : List Nat} {stk : List Int64} (h : s / 1048576 ≤ 1) (h2 : ¬ stk.length < 32) : evC wd (s :: ss) stk = evC wd ss stk := by
  show (if _ then (if _ then _ else _) else _) = _
  rw [if_pos h, if_neg h2]
theorem evC_not {wd : Nat → Int64} {s : Nat} {ss : List Nat} {stk : List Int64} {a : Int64} (h : s / 1048576 = 14) : evC wd (s :: ss) (a :: stk) = evC wd ss ((1 - a) :: stk) := by
  show (if _ then _ else (if _ then _ else _)) = _
  rw [if_neg (by omega), if_pos h]
theorem evC_not0 {wd : Nat → Int64} {s : Nat} {ss : List Nat} (h : s / 1048576 = 14) : evC wd (s :: ss) [] = evC wd ss [] := by
  show (if _ then _ else (if _ then _ else _)) = _
  rw [if_neg (by omega), if_pos h]
theorem evC_cl {wd : Nat → Int64} {s : Nat} {ss : List Nat} {stk : List Int64} {a : Int64} (h : s / 1048576 = 15) : evC wd (s :: ss) (a :: stk) = a := by
  show (if _ then _ else (if _ then _ else (if _ then _ else _))) = _
  rw [if_neg (by omega), if_neg (by omega), if_pos h]
theorem evC_cl0 {wd : Nat → Int64} {s : Nat} {ss : List Nat} (h : s / 1048576 = 15) : evC wd (s :: ss) [] = 0 := by
  show (if _ then _ else (if _ then _ else (if _ then _ else _))) = _
  rw [if_neg (by omega), if_neg (by omega), if_pos h]
theorem evC_ci {wd : Nat → Int64} {s : Nat} {ss : List Nat} {stk : List Int64} {a b : Int64} (h : s / 1048576 = 16) : evC wd (s :: ss) (a :: b :: stk) = if a ≠ 0 then b else evC wd ss [] := by
  show (if _ then _ else (if _ then _ else (if _ then _ else (if _ then _ else _)))) = _
  rw [if_neg (by omega), if_neg (by omega), if_neg (by omega), if_pos h]
theorem evC_ci0 {wd : Nat → Int64} {s : Nat} {ss : List Nat} {stk : List Int64} (h : s / 1048576 = 16) (h2 : stk.length < 2) : evC wd (s :: ss) stk = evC wd ss [] := by
  show (if _ then _ else (if _ then _ else (if _ then _ else (if _ then _ else _)))) = _
  rw [if_neg (by omega), if_neg (by omega), if_neg (by omega), if_pos h]
  match stk, h2 with
  | [], _ => rfl
  | [x], _ => rfl
  | x :: y :: r, h => simp only [List.length_cons] at h; omega
theorem evC_jn {wd : Nat → Int64} {s : Nat} {ss : List Nat} {stk : List Int64} {a b : Int64} (h : ¬ s / 1048576 ≤ 1) (h1 : s / 1048576 ≠ 14) (h2 : s / 1048576 ≠ 15) (h3 : s / 1048576 ≠ 16) : evC wd (s :: ss) (b :: a :: stk) = evC wd ss (jn (s / 1048576) a b :: stk) := by
  show (if _ then _ else (if _ then _ else (if _ then _ else (if _ then _ else _)))) = _
  rw [if_neg h, if_neg h1, if_neg h2, if_neg h3]
theorem evC_jn0 {wd : Nat → Int64} {s : Nat} {ss : List Nat} {stk : List Int64} (h : ¬ s / 1048576 ≤ 1) (h1 : s / 1048576 ≠ 14) (h2 : s / 1048576 ≠ 15) (h3 : s / 1048576 ≠ 16) (h4 : stk.length < 2) : evC wd (s :: ss) stk = evC wd ss stk := by
  show (if _ then _ else (if _ then _ else (if _ then _ else (if _ then _ else _)))) = _
  rw [if_neg h, if_neg h1, if_neg h2, if_neg h3]
  match stk, h4 with
  | [], _ => rfl
  | [x], _ => rfl
  | x :: y :: r, h => simp only [List.length_cons] at h; omega
theorem Rule_valueOf {K : xG} {h w k s : Nat} {G : xHp} {wd : Nat → Int64} (hw : G w = some (eJ 12 wd)) (hk : k < 2 ^ 31) (hs : s < 2 ^ 31) : xCall K mX8_valueOf 0 0 0 [.int (nI k), .int (nI s), .ref w] h G (xRet (some (.long (valS k s wd))) h G) := by
  refine x_entry (by decide) (ls := [(0, .int (nI k)), (1, .int (nI s)), (2, .ref w)]) rfl (Nat.le_of_ble_eq_true rfl) ?_
  refine x_iload_n dX8_valueOf_0 1 rfl ?_
  refine x_ldc dX8_valueOf_1 cX8_21 ?_
  refine x_topi (y := nI 1048575) (by decide) ?_
  refine x_iand dX8_valueOf_3 ?_
  refine x_topi (y := nI (s % 1048576)) (and20 hs) ?_
  refine x_istore_n (ls' := [(3, .int (nI (s % 1048576))), (0, .int (nI k)), (1, .int (nI s)), (2, .ref w)]) dX8_valueOf_4 (by decide) rfl ?_
  refine x_iload_n dX8_valueOf_5 1 rfl ?_
  refine x_ifN_ne (tgt := 12) dX8_valueOf_6 (by decide) (by omega) (fun c6 => ?_) (fun c6 => ?_)
  · refine x_iload_n dX8_valueOf_12 0 rfl ?_
    refine x_aload_n dX8_valueOf_13 3 rfl ?_
    refine x_alenJ dX8_valueOf_14 (hw) ?_
    refine x_pc (pc' := 15) rfl ?_
    refine x_icmpN_ge (tgt := 24) dX8_valueOf_15 (by decide) (by omega) (by omega) (fun c15 => ?_) (fun c15 => ?_)
    · refine x_lconst (v := 0) dX8_valueOf_24 rfl ?_
      exact x_lret dX8_valueOf_25 rfl (xRet_e (by rw [valS, if_neg c6, if_neg (by omega)]) rfl)
    · refine x_aload_n dX8_valueOf_18 3 rfl ?_
      refine x_iload_n dX8_valueOf_19 0 rfl ?_
      refine x_laldN dX8_valueOf_20 (hw) (by omega) (by decide) ?_
      refine x_goto (tgt := 25) dX8_valueOf_21 (by decide) ?_
      exact x_lret dX8_valueOf_25 rfl (xRet_e (by rw [valS, if_neg c6, if_pos (by omega)]) rfl)
  · refine x_iload_n dX8_valueOf_9 0 rfl ?_
    refine x_i2l dX8_valueOf_10 ?_
    exact x_lret dX8_valueOf_11 rfl (xRet_e (by rw [valS, if_pos c6]) rfl)
theorem jn_out {k : Nat} {a b : Int64} (h : (k : Int) < 2 ∨ 12 < (k : Int)) : jn k a b = a ||| b := by
  simp only [jn]
  rw [if_neg (by omega), if_neg (by omega), if_neg (by omega), if_neg (by omega), if_neg (by omega), if_neg (by omega), if_neg (by omega), if_neg (by omega), if_neg (by omega), if_neg (by omega), if_neg (by omega)]
theorem Rule_joined {K : xG} {h k : Nat} {G : xHp} {a b : Int64} (hk : k < 2 ^ 31) : xCall K mX8_joined 0 0 0 [.int (nI k), .long a, .long b] h G (xRet (some (.long (jn k a b))) h G) := by
  refine x_entry (by decide) (ls := [(0, .int (nI k)), (1, .long a), (3, .long b)]) rfl (Nat.le_of_ble_eq_true rfl) ?_
  refine x_iload_n dX8_joined_0 0 rfl ?_
  rcases xsw_2_11 (nI k) with c1 | c1 | c1 | c1 | c1 | c1 | c1 | c1 | c1 | c1 | c1 | c1
  · refine x_tableIn (tgt := 60) (off := 59) dX8_joined_1 (by rw [c1]; decide) (by rw [c1]; decide) (by rw [c1]; rfl) (by decide) ?_
    refine x_lload_n dX8_joined_60 1 rfl ?_
    refine x_lload_n dX8_joined_61 2 rfl ?_
    refine x_ladd dX8_joined_62 ?_
    exact x_lret dX8_joined_63 rfl (xRet_e (by have e1 := (nI_eq hk (by decide)).mp c1; subst e1; simp [jn]) rfl)
  · refine x_tableIn (tgt := 64) (off := 63) dX8_joined_1 (by rw [c1]; decide) (by rw [c1]; decide) (by rw [c1]; rfl) (by decide) ?_
    refine x_lload_n dX8_joined_64 1 rfl ?_
    refine x_lload_n dX8_joined_65 2 rfl ?_
    refine x_lsub dX8_joined_66 ?_
    exact x_lret dX8_joined_67 rfl (xRet_e (by have e1 := (nI_eq hk (by decide)).mp c1; subst e1; simp [jn]) rfl)
  · refine x_tableIn (tgt := 68) (off := 67) dX8_joined_1 (by rw [c1]; decide) (by rw [c1]; decide) (by rw [c1]; rfl) (by decide) ?_
    refine x_lload_n dX8_joined_68 1 rfl ?_
    refine x_lload_n dX8_joined_69 2 rfl ?_
    refine x_lmul dX8_joined_70 ?_
    exact x_lret dX8_joined_71 rfl (xRet_e (by have e1 := (nI_eq hk (by decide)).mp c1; subst e1; simp [jn]) rfl)
  · refine x_tableIn (tgt := 72) (off := 71) dX8_joined_1 (by rw [c1]; decide) (by rw [c1]; decide) (by rw [c1]; rfl) (by decide) ?_
    refine x_lload_n dX8_joined_72 2 rfl ?_
    refine x_lconst (v := 0) dX8_joined_73 rfl ?_
    refine x_lcmp dX8_joined_74 ?_
    refine x_if_ne (tgt := 82) dX8_joined_75 (by decide) (fun c75 => ?_) (fun c75 => ?_)
    · refine x_lload_n dX8_joined_82 1 rfl ?_
      refine x_lload_n dX8_joined_83 2 rfl ?_
      refine x_ldiv dX8_joined_84 (fun q => c75 ((lg_cmp_eq _ _).mpr q)) ?_
      refine x_pc (pc' := 85) rfl ?_
      exact x_lret dX8_joined_85 rfl (xRet_e (by have e1 := (nI_eq hk (by decide)).mp c1; subst e1; simp only [lg_cmp_ge, lg_cmp_le, lg_cmp_gt, lg_cmp_lt, lg_cmp_eq] at c75; simp [jn, c75]) rfl)
    · refine x_lconst (v := 0) dX8_joined_78 rfl ?_
      refine x_goto (tgt := 85) dX8_joined_79 (by decide) ?_
      exact x_lret dX8_joined_85 rfl (xRet_e (by have e1 := (nI_eq hk (by decide)).mp c1; subst e1; simp only [lg_cmp_ge, lg_cmp_le, lg_cmp_gt, lg_cmp_lt, lg_cmp_eq] at c75; simp [jn, c75]) rfl)
  · refine x_tableIn (tgt := 86) (off := 85) dX8_joined_1 (by rw [c1]; decide) (by rw [c1]; decide) (by rw [c1]; rfl) (by decide) ?_
    refine x_lload_n dX8_joined_86 2 rfl ?_
    refine x_lconst (v := 0) dX8_joined_87 rfl ?_
    refine x_lcmp dX8_joined_88 ?_
    refine x_if_ne (tgt := 96) dX8_joined_89 (by decide) (fun c89 => ?_) (fun c89 => ?_)
    · refine x_lload_n dX8_joined_96 1 rfl ?_
      refine x_lload_n dX8_joined_97 2 rfl ?_
      refine x_lrem dX8_joined_98 (fun q => c89 ((lg_cmp_eq _ _).mpr q)) ?_
      refine x_pc (pc' := 99) rfl ?_
      exact x_lret dX8_joined_99 rfl (xRet_e (by have e1 := (nI_eq hk (by decide)).mp c1; subst e1; simp only [lg_cmp_ge, lg_cmp_le, lg_cmp_gt, lg_cmp_lt, lg_cmp_eq] at c89; simp [jn, c89]) rfl)
    · refine x_lconst (v := 0) dX8_joined_92 rfl ?_
      refine x_goto (tgt := 99) dX8_joined_93 (by decide) ?_
      exact x_lret dX8_joined_99 rfl (xRet_e (by have e1 := (nI_eq hk (by decide)).mp c1; subst e1; simp only [lg_cmp_ge, lg_cmp_le, lg_cmp_gt, lg_cmp_lt, lg_cmp_eq] at c89; simp [jn, c89]) rfl)
  · refine x_tableIn (tgt := 100) (off := 99) dX8_joined_1 (by rw [c1]; decide) (by rw [c1]; decide) (by rw [c1]; rfl) (by decide) ?_
    refine x_lload_n dX8_joined_100 1 rfl ?_
    refine x_lload_n dX8_joined_101 2 rfl ?_
    refine x_lcmp dX8_joined_102 ?_
    refine x_if_ge (tgt := 110) dX8_joined_103 (by decide) (fun c103 => ?_) (fun c103 => ?_)
    · refine x_lconst (v := 0) dX8_joined_110 rfl ?_
      exact x_lret dX8_joined_111 rfl (xRet_e (by have e1 := (nI_eq hk (by decide)).mp c1; subst e1; simp only [lg_cmp_ge, lg_cmp_le, lg_cmp_gt, lg_cmp_lt, lg_cmp_eq] at c103; simp [jn, c103]) rfl)
    · refine x_lconst (v := 1) dX8_joined_106 rfl ?_
      refine x_goto (tgt := 111) dX8_joined_107 (by decide) ?_
      exact x_lret dX8_joined_111 rfl (xRet_e (by have e1 := (nI_eq hk (by decide)).mp c1; subst e1; simp only [lg_cmp_ge, lg_cmp_le, lg_cmp_gt, lg_cmp_lt, lg_cmp_eq] at c103; simp [jn, c103]) rfl)
  · refine x_tableIn (tgt := 112) (off := 111) dX8_joined_1 (by rw [c1]; decide) (by rw [c1]; decide) (by rw [c1]; rfl) (by decide) ?_
    refine x_lload_n dX8_joined_112 1 rfl ?_
    refine x_lload_n dX8_joined_113 2 rfl ?_
    refine x_lcmp dX8_joined_114 ?_
    refine x_if_gt (tgt := 122) dX8_joined_115 (by decide) (fun c115 => ?_) (fun c115 => ?_)
    · refine x_lconst (v := 0) dX8_joined_122 rfl ?_
      exact x_lret dX8_joined_123 rfl (xRet_e (by have e1 := (nI_eq hk (by decide)).mp c1; subst e1; simp only [lg_cmp_ge, lg_cmp_le, lg_cmp_gt, lg_cmp_lt, lg_cmp_eq] at c115; simp [jn, c115]) rfl)
    · refine x_lconst (v := 1) dX8_joined_118 rfl ?_
      refine x_goto (tgt := 123) dX8_joined_119 (by decide) ?_
      exact x_lret dX8_joined_123 rfl (xRet_e (by have e1 := (nI_eq hk (by decide)).mp c1; subst e1; simp only [lg_cmp_ge, lg_cmp_le, lg_cmp_gt, lg_cmp_lt, lg_cmp_eq] at c115; simp [jn, c115]) rfl)
  · refine x_tableIn (tgt := 124) (off := 123) dX8_joined_1 (by rw [c1]; decide) (by rw [c1]; decide) (by rw [c1]; rfl) (by decide) ?_
    refine x_lload_n dX8_joined_124 1 rfl ?_
    refine x_lload_n dX8_joined_125 2 rfl ?_
    refine x_lcmp dX8_joined_126 ?_
    refine x_if_ne (tgt := 134) dX8_joined_127 (by decide) (fun c127 => ?_) (fun c127 => ?_)
    · refine x_lconst (v := 0) dX8_joined_134 rfl ?_
      exact x_lret dX8_joined_135 rfl (xRet_e (by have e1 := (nI_eq hk (by decide)).mp c1; subst e1; simp only [lg_cmp_ge, lg_cmp_le, lg_cmp_gt, lg_cmp_lt, lg_cmp_eq] at c127; simp [jn, c127]) rfl)
    · refine x_lconst (v := 1) dX8_joined_130 rfl ?_
      refine x_goto (tgt := 135) dX8_joined_131 (by decide) ?_
      exact x_lret dX8_joined_135 rfl (xRet_e (by have e1 := (nI_eq hk (by decide)).mp c1; subst e1; simp only [lg_cmp_ge, lg_cmp_le, lg_cmp_gt, lg_cmp_lt, lg_cmp_eq] at c127; simp [jn, c127]) rfl)
  · refine x_tableIn (tgt := 136) (off := 135) dX8_joined_1 (by rw [c1]; decide) (by rw [c1]; decide) (by rw [c1]; rfl) (by decide) ?_
    refine x_lload_n dX8_joined_136 1 rfl ?_
    refine x_lload_n dX8_joined_137 2 rfl ?_
    refine x_lcmp dX8_joined_138 ?_
    refine x_if_lt (tgt := 146) dX8_joined_139 (by decide) (fun c139 => ?_) (fun c139 => ?_)
    · refine x_lconst (v := 0) dX8_joined_146 rfl ?_
      exact x_lret dX8_joined_147 rfl (xRet_e (by have e1 := (nI_eq hk (by decide)).mp c1; subst e1; simp only [lg_cmp_ge, lg_cmp_le, lg_cmp_gt, lg_cmp_lt, lg_cmp_eq] at c139; simp [jn, c139]) rfl)
    · refine x_lconst (v := 1) dX8_joined_142 rfl ?_
      refine x_goto (tgt := 147) dX8_joined_143 (by decide) ?_
      exact x_lret dX8_joined_147 rfl (xRet_e (by have e1 := (nI_eq hk (by decide)).mp c1; subst e1; simp only [lg_cmp_ge, lg_cmp_le, lg_cmp_gt, lg_cmp_lt, lg_cmp_eq] at c139; simp [jn, c139]) rfl)
  · refine x_tableIn (tgt := 148) (off := 147) dX8_joined_1 (by rw [c1]; decide) (by rw [c1]; decide) (by rw [c1]; rfl) (by decide) ?_
    refine x_lload_n dX8_joined_148 1 rfl ?_
    refine x_lload_n dX8_joined_149 2 rfl ?_
    refine x_lcmp dX8_joined_150 ?_
    refine x_if_le (tgt := 158) dX8_joined_151 (by decide) (fun c151 => ?_) (fun c151 => ?_)
    · refine x_lconst (v := 0) dX8_joined_158 rfl ?_
      exact x_lret dX8_joined_159 rfl (xRet_e (by have e1 := (nI_eq hk (by decide)).mp c1; subst e1; simp only [lg_cmp_ge, lg_cmp_le, lg_cmp_gt, lg_cmp_lt, lg_cmp_eq] at c151; simp [jn, c151]) rfl)
    · refine x_lconst (v := 1) dX8_joined_154 rfl ?_
      refine x_goto (tgt := 159) dX8_joined_155 (by decide) ?_
      exact x_lret dX8_joined_159 rfl (xRet_e (by have e1 := (nI_eq hk (by decide)).mp c1; subst e1; simp only [lg_cmp_ge, lg_cmp_le, lg_cmp_gt, lg_cmp_lt, lg_cmp_eq] at c151; simp [jn, c151]) rfl)
  · refine x_tableIn (tgt := 160) (off := 159) dX8_joined_1 (by rw [c1]; decide) (by rw [c1]; decide) (by rw [c1]; rfl) (by decide) ?_
    refine x_lload_n dX8_joined_160 1 rfl ?_
    refine x_lload_n dX8_joined_161 2 rfl ?_
    refine x_land dX8_joined_162 ?_
    exact x_lret dX8_joined_163 rfl (xRet_e (by have e1 := (nI_eq hk (by decide)).mp c1; subst e1; simp [jn]) rfl)
  · refine x_tableOut (tgt := 164) dX8_joined_1 (by omega) (by decide) ?_
    refine x_lload_n dX8_joined_164 1 rfl ?_
    refine x_lload_n dX8_joined_165 2 rfl ?_
    refine x_lor dX8_joined_166 ?_
    exact x_lret dX8_joined_167 rfl (xRet_e (by rw [jn_out (by rw [nI_toInt hk] at c1; omega)]) rfl)
theorem Rule_sum_loop {K : xG} {h a w s : Nat} {G : xHp} {wd : Nat → Int64} {sp : List Nat} (hR : RuleAt G a sp) (hw : G w = some (eJ 12 wd)) (hs1 : s ≠ a) (hs2 : s ≠ a + 1) (hs3 : s ≠ w) : ∀ (rest : List Nat) (i : Nat) (stk : List Int64) (f : Nat → Int64), i ≤ sp.length → sp.drop i = rest → stk.length ≤ 32 → skOk f stk → evC wd rest stk = evC wd sp [] → xV K mX8_sum 1 0 0 h (xup G s (eJ 32 f)) 5 [(4, .int (nI i)), (3, .int (nI stk.length)), (0, .ref a), (1, .ref w), (2, .ref s)] [] (xEx (fun _ : Nat → Int64 => True) (fun _ => some (.long (evC wd sp []))) (fun _ => h) (fun sk => xup G s (eJ 32 sk))) := by
  have hlen := hR.2.2.2
  intro rest
  induction rest with
  | nil =>
    intro i stk f hib hd hk hsk hev
    have hi : sp.length ≤ i := by have := congrArg List.length hd; simp at this; omega
    refine x_iload dX8_sum_5 0 rfl ?_
    refine x_aload_n dX8_sum_7 2 rfl ?_
    refine x_get dX8_sum_8 fX8_7 (xup_of (Ne.symm hs1) (hR.1)) rfl ?_
    refine x_alen dX8_sum_11 (by decide) (xup_of (Ne.symm hs2) (hR.2.1)) ?_
    refine x_icmpN_ge (tgt := 175) dX8_sum_12 (by decide) (by omega) (by omega) (fun c12 => ?_) (fun c12 => ?_)
    · refine x_lconst (v := 0) dX8_sum_175 rfl ?_
      exact x_lret dX8_sum_176 rfl (xEx_i f trivial (by rw [← hev]; rfl) rfl rfl)
    · exact absurd c12 (by omega)
  | cons s0 ss ih =>
    intro i stk f hib hd hk hsk hev
    have hi : i < sp.length := by have := congrArg List.length hd; simp at this; omega
    have hsi : sp.getD i 0 = s0 := by rw [List.getD_eq_getElem?_getD, show sp[i]? = (sp.drop i)[0]? by simp, hd]; rfl
    have hdn : sp.drop (i + 1) = ss := by have := congrArg List.tail hd; simpa using this
    have hs0 : s0 < 2 ^ 31 := hR.2.2.1 s0 (List.mem_of_mem_drop (i := i) (by rw [hd]; exact List.mem_cons_self))
    refine x_iload dX8_sum_5 0 rfl ?_
    refine x_aload_n dX8_sum_7 2 rfl ?_
    refine x_get dX8_sum_8 fX8_7 (xup_of (Ne.symm hs1) (hR.1)) rfl ?_
    refine x_alen dX8_sum_11 (by decide) (xup_of (Ne.symm hs2) (hR.2.1)) ?_
    refine x_icmpN_ge (tgt := 175) dX8_sum_12 (by decide) (by omega) (by omega) (fun c12 => ?_) (fun c12 => ?_)
    · exact absurd c12 (by omega)
    · refine x_aload_n dX8_sum_15 2 rfl ?_
      refine x_get dX8_sum_16 fX8_7 (xup_of (Ne.symm hs1) (hR.1)) rfl ?_
      refine x_iload dX8_sum_19 0 rfl ?_
      refine x_ialdN dX8_sum_21 (xup_of (Ne.symm hs2) (hR.2.1)) (by omega) (by omega) ?_
      refine x_topi (congrArg nI hsi) ?_
      refine x_pc (pc' := 22) rfl ?_
      refine x_bipush dX8_sum_22 kb_20 ?_
      refine x_ishr dX8_sum_24 ?_
      refine x_topi (y := nI (s0 / 1048576)) (shr20 hs0) ?_
      refine x_istore (ls' := [(5, .int (nI (s0 / 1048576))), (4, .int (nI i)), (3, .int (nI stk.length)), (0, .ref a), (1, .ref w), (2, .ref s)]) dX8_sum_25 (by decide) rfl ?_
      refine x_iload dX8_sum_27 0 rfl ?_
      refine x_iconst dX8_sum_29 ki_1 ?_
      refine x_icmpN_gt (tgt := 61) dX8_sum_30 (by decide) (by omega) (by omega) (fun c30 => ?_) (fun c30 => ?_)
      · refine x_iload dX8_sum_61 0 rfl ?_
        refine x_bipush dX8_sum_63 kb_14 ?_
        refine x_icmpN_ne (tgt := 88) dX8_sum_65 (by decide) (by omega) (by omega) (fun c65 => ?_) (fun c65 => ?_)
        · refine x_iload dX8_sum_88 0 rfl ?_
          refine x_pc (pc' := 90) rfl ?_
          refine x_bipush dX8_sum_90 kb_15 ?_
          refine x_icmpN_ne (tgt := 110) dX8_sum_92 (by decide) (by omega) (by omega) (fun c92 => ?_) (fun c92 => ?_)
          · refine x_iload dX8_sum_110 0 rfl ?_
            refine x_bipush dX8_sum_112 kb_16 ?_
            refine x_icmpN_ne (tgt := 143) dX8_sum_114 (by decide) (by omega) (by omega) (fun c114 => ?_) (fun c114 => ?_)
            · refine x_iload_n dX8_sum_143 2 rfl ?_
              refine x_iconst dX8_sum_144 ki_2 ?_
              refine x_icmpN_lt (tgt := 169) dX8_sum_145 (by decide) (by omega) (by omega) (fun c145 => ?_) (fun c145 => ?_)
              · refine x_iinc (v := nI (i + 1)) (ls' := [(4, .int (nI (i + 1))), (5, .int (nI (s0 / 1048576))), (3, .int (nI stk.length)), (0, .ref a), (1, .ref w), (2, .ref s)]) dX8_sum_169 1 rfl (nIs _) (by decide) rfl ?_
                refine x_goto (tgt := 5) dX8_sum_172 (by decide) ?_
                refine x_perm (ls' := [(4, .int (nI (i + 1))), (3, .int (nI stk.length)), (0, .ref a), (1, .ref w), (2, .ref s)]) [0, 2, 3, 4, 5] rfl ?_
                exact ih (i + 1) stk f (by omega) hdn hk hsk (by rw [← hev, evC_jn0 (by omega) (by omega) (by omega) (by omega) (by omega)])
              · obtain ⟨a0, a1, r0, rfl⟩ : ∃ x y r, stk = x :: y :: r := by match stk, c145 with | [], h => simp only [List.length_nil] at h; omega | [x], h => simp only [List.length_cons, List.length_nil] at h; omega | x :: y :: r, _ => exact ⟨x, y, r, rfl⟩
                refine x_iinc (v := nI (((a0 :: a1 :: r0).length) - 1)) (ls' := [(3, .int (nI (((a0 :: a1 :: r0).length) - 1))), (5, .int (nI (s0 / 1048576))), (4, .int (nI i)), (0, .ref a), (1, .ref w), (2, .ref s)]) dX8_sum_148 2 rfl (nId (by simp only [List.length_cons]; omega)) (by decide) rfl ?_
                refine x_aload_n dX8_sum_151 5 rfl ?_
                refine x_pc (pc' := 152) rfl ?_
                refine x_iload_n dX8_sum_152 0 rfl ?_
                refine x_iconst dX8_sum_153 ki_1 ?_
                refine x_isubN dX8_sum_154 (by simp only [List.length_cons] at *; omega) ?_
                refine x_iload dX8_sum_155 1 rfl ?_
                refine x_aload_n dX8_sum_157 5 rfl ?_
                refine x_iload_n dX8_sum_158 0 rfl ?_
                refine x_iconst dX8_sum_159 ki_1 ?_
                refine x_isubN dX8_sum_160 (by simp only [List.length_cons] at *; omega) ?_
                refine x_laldN dX8_sum_161 (xup_eq) (by simp only [List.length_cons] at *; omega) (by decide) ?_
                refine x_topl (y := a1) hsk.2.1 ?_
                refine x_aload_n dX8_sum_162 5 rfl ?_
                refine x_pc (pc' := 163) rfl ?_
                refine x_iload_n dX8_sum_163 0 rfl ?_
                refine x_laldN dX8_sum_164 (xup_eq) (by simp only [List.length_cons] at *; omega) (by decide) ?_
                refine x_topl (y := a0) hsk.1 ?_
                refine x_cS (N := mX8_joined) (d' := 0) (mc := 0) (ms := 0) (cb := 0) (sb := 0) (As := [.int (nI (s0 / 1048576)), .long a1, .long a0]) (st := [.int (nI ((((a0 :: a1 :: r0).length) - 1) - 1)), .ref s]) dX8_sum_165 mX8_joined_s lX8_17 rfl (by decide) (Nat.le_of_ble_eq_true rfl) (Rule_joined (by omega)) rfl (st1 := [.long (jn (s0 / 1048576) a1 a0), .int (nI ((((a0 :: a1 :: r0).length) - 1) - 1)), .ref s]) rfl ?_
                refine x_lastN dX8_sum_168 (xup_eq) (by simp only [List.length_cons] at *; omega) (by decide) ?_
                refine x_geq xup_up ?_
                refine x_iinc (v := nI (i + 1)) (ls' := [(4, .int (nI (i + 1))), (3, .int (nI (((a0 :: a1 :: r0).length) - 1))), (5, .int (nI (s0 / 1048576))), (0, .ref a), (1, .ref w), (2, .ref s)]) dX8_sum_169 2 rfl (nIs _) (by decide) rfl ?_
                refine x_goto (tgt := 5) dX8_sum_172 (by decide) ?_
                refine x_perm (ls' := [(4, .int (nI (i + 1))), (3, .int (nI (((a0 :: a1 :: r0).length) - 1))), (0, .ref a), (1, .ref w), (2, .ref s)]) [0, 1, 3, 4, 5] rfl ?_
                exact ih (i + 1) (jn (s0 / 1048576) a1 a0 :: r0) _ (by omega) hdn (by simp only [List.length_cons] at *; omega) ⟨by simp [vp_updL], skOk_up (by simp) hsk.2.2⟩ (by rw [← hev, evC_jn (by omega) (by omega) (by omega) (by omega)])
            · refine x_iload_n dX8_sum_117 2 rfl ?_
              refine x_iconst dX8_sum_118 ki_2 ?_
              refine x_icmpN_lt (tgt := 138) dX8_sum_119 (by decide) (by omega) (by omega) (fun c119 => ?_) (fun c119 => ?_)
              · refine x_iconst dX8_sum_138 ki_0 ?_
                refine x_istore_n (ls' := [(3, .int (nI 0)), (5, .int (nI (s0 / 1048576))), (4, .int (nI i)), (0, .ref a), (1, .ref w), (2, .ref s)]) dX8_sum_139 (by decide) rfl ?_
                refine x_pc (pc' := 140) rfl ?_
                refine x_goto (tgt := 169) dX8_sum_140 (by decide) ?_
                refine x_iinc (v := nI (i + 1)) (ls' := [(4, .int (nI (i + 1))), (3, .int (nI 0)), (5, .int (nI (s0 / 1048576))), (0, .ref a), (1, .ref w), (2, .ref s)]) dX8_sum_169 2 rfl (nIs _) (by decide) rfl ?_
                refine x_goto (tgt := 5) dX8_sum_172 (by decide) ?_
                refine x_perm (ls' := [(4, .int (nI (i + 1))), (3, .int (nI 0)), (0, .ref a), (1, .ref w), (2, .ref s)]) [0, 1, 3, 4, 5] rfl ?_
                exact ih (i + 1) [] f (by omega) hdn (by simp) trivial (by rw [← hev, evC_ci0 c114 (by omega)])
              · obtain ⟨a0, a1, r0, rfl⟩ : ∃ x y r, stk = x :: y :: r := by match stk, c119 with | [], h => simp only [List.length_nil] at h; omega | [x], h => simp only [List.length_cons, List.length_nil] at h; omega | x :: y :: r, _ => exact ⟨x, y, r, rfl⟩
                refine x_aload_n dX8_sum_122 5 rfl ?_
                refine x_iload_n dX8_sum_123 2 rfl ?_
                refine x_pc (pc' := 124) rfl ?_
                refine x_iconst dX8_sum_124 ki_1 ?_
                refine x_isubN dX8_sum_125 (by simp only [List.length_cons] at *; omega) ?_
                refine x_laldN dX8_sum_126 (xup_eq) (by simp only [List.length_cons] at *; omega) (by decide) ?_
                refine x_topl (y := a0) hsk.1 ?_
                refine x_lconst (v := 0) dX8_sum_127 rfl ?_
                refine x_lcmp dX8_sum_128 ?_
                refine x_if_eq (tgt := 138) dX8_sum_129 (by decide) (fun c129 => ?_) (fun c129 => ?_)
                · refine x_iconst dX8_sum_138 ki_0 ?_
                  refine x_istore_n (ls' := [(3, .int (nI 0)), (5, .int (nI (s0 / 1048576))), (4, .int (nI i)), (0, .ref a), (1, .ref w), (2, .ref s)]) dX8_sum_139 (by decide) rfl ?_
                  refine x_goto (tgt := 169) dX8_sum_140 (by decide) ?_
                  refine x_iinc (v := nI (i + 1)) (ls' := [(4, .int (nI (i + 1))), (3, .int (nI 0)), (5, .int (nI (s0 / 1048576))), (0, .ref a), (1, .ref w), (2, .ref s)]) dX8_sum_169 2 rfl (nIs _) (by decide) rfl ?_
                  refine x_pc (pc' := 172) rfl ?_
                  refine x_goto (tgt := 5) dX8_sum_172 (by decide) ?_
                  refine x_perm (ls' := [(4, .int (nI (i + 1))), (3, .int (nI 0)), (0, .ref a), (1, .ref w), (2, .ref s)]) [0, 1, 3, 4, 5] rfl ?_
                  exact ih (i + 1) [] f (by omega) hdn (by simp) trivial (by rw [← hev, evC_ci c114, if_neg (fun q => q ((lg_cmp_eq _ _).mp c129))])
                · refine x_aload_n dX8_sum_132 5 rfl ?_
                  refine x_iload_n dX8_sum_133 2 rfl ?_
                  refine x_iconst dX8_sum_134 ki_2 ?_
                  refine x_isubN dX8_sum_135 (by simp only [List.length_cons] at *; omega) ?_
                  refine x_pc (pc' := 136) rfl ?_
                  refine x_laldN dX8_sum_136 (xup_eq) (by simp only [List.length_cons] at *; omega) (by decide) ?_
                  refine x_topl (y := a1) hsk.2.1 ?_
                  exact x_lret dX8_sum_137 rfl (xEx_i f trivial (by rw [← hev, evC_ci c114, if_pos (fun q => c129 ((lg_cmp_eq _ _).mpr q))]) rfl rfl)
          · refine x_iload_n dX8_sum_95 2 rfl ?_
            refine x_iconst dX8_sum_96 ki_1 ?_
            refine x_icmpN_lt (tgt := 108) dX8_sum_97 (by decide) (by omega) (by omega) (fun c97 => ?_) (fun c97 => ?_)
            · refine x_lconst (v := 0) dX8_sum_108 rfl ?_
              have e0 : stk = [] := List.eq_nil_of_length_eq_zero (by omega)
              subst e0
              exact x_lret dX8_sum_109 rfl (xEx_i f trivial (by rw [← hev, evC_cl0 c92]) rfl rfl)
            · obtain ⟨a0, r0, rfl⟩ : ∃ x y, stk = x :: y := by cases stk with | nil => simp only [List.length_nil] at c97; omega | cons x y => exact ⟨x, y, rfl⟩
              refine x_aload_n dX8_sum_100 5 rfl ?_
              refine x_iload_n dX8_sum_101 2 rfl ?_
              refine x_iconst dX8_sum_102 ki_1 ?_
              refine x_isubN dX8_sum_103 (by simp only [List.length_cons] at *; omega) ?_
              refine x_laldN dX8_sum_104 (xup_eq) (by simp only [List.length_cons] at *; omega) (by decide) ?_
              refine x_topl (y := a0) hsk.1 ?_
              refine x_pc (pc' := 105) rfl ?_
              refine x_goto (tgt := 109) dX8_sum_105 (by decide) ?_
              exact x_lret dX8_sum_109 rfl (xEx_i f trivial (by rw [← hev, evC_cl c92]) rfl rfl)
        · refine x_iload_n dX8_sum_68 2 rfl ?_
          refine x_pc (pc' := 69) rfl ?_
          refine x_iconst dX8_sum_69 ki_1 ?_
          refine x_icmpN_lt (tgt := 169) dX8_sum_70 (by decide) (by omega) (by omega) (fun c70 => ?_) (fun c70 => ?_)
          · refine x_iinc (v := nI (i + 1)) (ls' := [(4, .int (nI (i + 1))), (5, .int (nI (s0 / 1048576))), (3, .int (nI stk.length)), (0, .ref a), (1, .ref w), (2, .ref s)]) dX8_sum_169 1 rfl (nIs _) (by decide) rfl ?_
            refine x_goto (tgt := 5) dX8_sum_172 (by decide) ?_
            refine x_perm (ls' := [(4, .int (nI (i + 1))), (3, .int (nI stk.length)), (0, .ref a), (1, .ref w), (2, .ref s)]) [0, 2, 3, 4, 5] rfl ?_
            have e0 : stk = [] := List.eq_nil_of_length_eq_zero (by omega)
            subst e0
            exact ih (i + 1) [] f (by omega) hdn hk hsk (by rw [← hev, evC_not0 c65])
          · obtain ⟨a0, r0, rfl⟩ : ∃ x y, stk = x :: y := by cases stk with | nil => simp only [List.length_nil] at c70; omega | cons x y => exact ⟨x, y, rfl⟩
            refine x_aload_n dX8_sum_73 5 rfl ?_
            refine x_iload_n dX8_sum_74 2 rfl ?_
            refine x_iconst dX8_sum_75 ki_1 ?_
            refine x_isubN dX8_sum_76 (by simp only [List.length_cons] at *; omega) ?_
            refine x_lconst (v := 1) dX8_sum_77 rfl ?_
            refine x_aload_n dX8_sum_78 5 rfl ?_
            refine x_iload_n dX8_sum_79 2 rfl ?_
            refine x_iconst dX8_sum_80 ki_1 ?_
            refine x_pc (pc' := 81) rfl ?_
            refine x_isubN dX8_sum_81 (by simp only [List.length_cons] at *; omega) ?_
            refine x_laldN dX8_sum_82 (xup_eq) (by simp only [List.length_cons] at *; omega) (by decide) ?_
            refine x_topl (y := a0) hsk.1 ?_
            refine x_lsub dX8_sum_83 ?_
            refine x_lastN dX8_sum_84 (xup_eq) (by simp only [List.length_cons] at *; omega) (by decide) ?_
            refine x_geq xup_up ?_
            refine x_goto (tgt := 169) dX8_sum_85 (by decide) ?_
            refine x_iinc (v := nI (i + 1)) (ls' := [(4, .int (nI (i + 1))), (5, .int (nI (s0 / 1048576))), (3, .int (nI ((a0 :: r0).length))), (0, .ref a), (1, .ref w), (2, .ref s)]) dX8_sum_169 1 rfl (nIs _) (by decide) rfl ?_
            refine x_goto (tgt := 5) dX8_sum_172 (by decide) ?_
            refine x_perm (ls' := [(4, .int (nI (i + 1))), (3, .int (nI ((a0 :: r0).length))), (0, .ref a), (1, .ref w), (2, .ref s)]) [0, 2, 3, 4, 5] rfl ?_
            exact ih (i + 1) ((1 - a0) :: r0) _ (by omega) hdn (by simp only [List.length_cons] at *; omega) ⟨by simp [vp_updL], skOk_up (by simp) hsk.2⟩ (by rw [← hev, evC_not c65])
      · refine x_iload_n dX8_sum_33 2 rfl ?_
        refine x_aload_n dX8_sum_34 5 rfl ?_
        refine x_alenJ dX8_sum_35 (xup_eq) ?_
        refine x_icmpN_ge (tgt := 169) dX8_sum_36 (by decide) (by omega) (by omega) (fun c36 => ?_) (fun c36 => ?_)
        · refine x_pc (pc' := 169) rfl ?_
          refine x_iinc (v := nI (i + 1)) (ls' := [(4, .int (nI (i + 1))), (5, .int (nI (s0 / 1048576))), (3, .int (nI stk.length)), (0, .ref a), (1, .ref w), (2, .ref s)]) dX8_sum_169 1 rfl (nIs _) (by decide) rfl ?_
          refine x_goto (tgt := 5) dX8_sum_172 (by decide) ?_
          refine x_perm (ls' := [(4, .int (nI (i + 1))), (3, .int (nI stk.length)), (0, .ref a), (1, .ref w), (2, .ref s)]) [0, 2, 3, 4, 5] rfl ?_
          exact ih (i + 1) stk f (by omega) hdn hk hsk (by rw [← hev, evC_valF (by omega) (by omega)])
        · refine x_pc (pc' := 39) rfl ?_
          refine x_aload_n dX8_sum_39 5 rfl ?_
          refine x_iload_n dX8_sum_40 2 rfl ?_
          refine x_iload dX8_sum_41 0 rfl ?_
          refine x_aload_n dX8_sum_43 3 rfl ?_
          refine x_get dX8_sum_44 fX8_7 (xup_of (Ne.symm hs1) (hR.1)) rfl ?_
          refine x_iload dX8_sum_47 1 rfl ?_
          refine x_ialdN dX8_sum_49 (xup_of (Ne.symm hs2) (hR.2.1)) (by omega) (by omega) ?_
          refine x_topi (congrArg nI hsi) ?_
          refine x_aload_n dX8_sum_50 4 rfl ?_
          refine x_cS (N := mX8_valueOf) (d' := 0) (mc := 0) (ms := 0) (cb := 0) (sb := 0) (As := [.int (nI (s0 / 1048576)), .int (nI s0), .ref w]) (st := [.int (nI stk.length), .ref s]) dX8_sum_51 mX8_valueOf_s lX8_13 rfl (by decide) (Nat.le_of_ble_eq_true rfl) (Rule_valueOf (xup_of (Ne.symm hs3) hw) (by omega) hs0) rfl (st1 := [.long (valS (s0 / 1048576) s0 wd), .int (nI stk.length), .ref s]) rfl ?_
          refine x_lastN dX8_sum_54 (xup_eq) (by omega) (by decide) ?_
          refine x_geq xup_up ?_
          refine x_pc (pc' := 55) rfl ?_
          refine x_iinc (v := nI (stk.length + 1)) (ls' := [(3, .int (nI (stk.length + 1))), (5, .int (nI (s0 / 1048576))), (4, .int (nI i)), (0, .ref a), (1, .ref w), (2, .ref s)]) dX8_sum_55 2 rfl (nIs _) (by decide) rfl ?_
          refine x_goto (tgt := 169) dX8_sum_58 (by decide) ?_
          refine x_iinc (v := nI (i + 1)) (ls' := [(4, .int (nI (i + 1))), (3, .int (nI (stk.length + 1))), (5, .int (nI (s0 / 1048576))), (0, .ref a), (1, .ref w), (2, .ref s)]) dX8_sum_169 2 rfl (nIs _) (by decide) rfl ?_
          refine x_goto (tgt := 5) dX8_sum_172 (by decide) ?_
          refine x_perm (ls' := [(4, .int (nI (i + 1))), (3, .int (nI (stk.length + 1))), (0, .ref a), (1, .ref w), (2, .ref s)]) [0, 1, 3, 4, 5] rfl ?_
          exact ih (i + 1) (valS (s0 / 1048576) s0 wd :: stk) _ (by omega) hdn (by simp only [List.length_cons] at *; omega) ⟨by simp [vp_updL], skOk_up (Nat.le_refl _) hsk⟩ (by rw [← hev, evC_val (by omega) (by omega)])
theorem Rule_sum {K : xG} {h a w s : Nat} {G : xHp} {wd : Nat → Int64} {sp : List Nat} (hR : RuleAt G a sp) (hw : G w = some (eJ 12 wd)) (hs1 : s ≠ a) (hs2 : s ≠ a + 1) (hs3 : s ≠ w) {sk : Nat → Int64} (hk : G s = some (eJ 32 sk)) : xCall K mX8_sum 1 0 0 [.ref a, .ref w, .ref s] h G (xEx (fun _ : Nat → Int64 => True) (fun _ => some (.long (evC wd sp []))) (fun _ => h) (fun sk => xup G s (eJ 32 sk))) := by
  refine x_entry (by decide) (ls := [(0, .ref a), (1, .ref w), (2, .ref s)]) rfl (Nat.le_of_ble_eq_true rfl) ?_
  refine x_iconst dX8_sum_0 ki_0 ?_
  refine x_istore_n (ls' := [(3, .int (nI 0)), (0, .ref a), (1, .ref w), (2, .ref s)]) dX8_sum_1 (by decide) rfl ?_
  refine x_iconst dX8_sum_2 ki_0 ?_
  refine x_istore (ls' := [(4, .int (nI 0)), (3, .int (nI 0)), (0, .ref a), (1, .ref w), (2, .ref s)]) dX8_sum_3 (by decide) rfl ?_
  refine x_geq (xup_same hk).symm ?_
  exact Rule_sum_loop hR hw hs1 hs2 hs3 sp 0 [] sk (by omega) rfl (by simp) trivial rfl
