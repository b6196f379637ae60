theorem Md_truth_1 {K : xG} {h : Nat} {G : xHp} : xCall K mX12_truth 0 0 0 [.int (nI 1)] h G (xRet (some (.long 1)) h G) := by
  refine x_entry (by decide) (ls := [(0, .int (nI 1))]) rfl (Nat.le_of_ble_eq_true rfl) ?_
  refine x_iload_n dX12_truth_0 0 rfl ?_
  refine x_ifN_eq (tgt := 8) dX12_truth_1 (by decide) (by omega) (fun c1 => ?_) (fun c1 => ?_)
  · exact absurd c1 (by decide)
  · refine x_lconst (v := 1) dX12_truth_4 rfl ?_
    refine x_goto (tgt := 9) dX12_truth_5 (by decide) ?_
    exact x_lret dX12_truth_9 rfl (xRet_i)
theorem Md_truth_0 {K : xG} {h : Nat} {G : xHp} : xCall K mX12_truth 0 0 0 [.int (nI 0)] h G (xRet (some (.long 0)) h G) := by
  refine x_entry (by decide) (ls := [(0, .int (nI 0))]) rfl (Nat.le_of_ble_eq_true rfl) ?_
  refine x_iload_n dX12_truth_0 0 rfl ?_
  refine x_ifN_eq (tgt := 8) dX12_truth_1 (by decide) (by omega) (fun c1 => ?_) (fun c1 => ?_)
  · refine x_lconst (v := 0) dX12_truth_8 rfl ?_
    exact x_lret dX12_truth_9 rfl (xRet_i)
  · exact absurd c1 (by decide)
theorem Md_both {K : xG} {h k : Nat} {G : xHp} {a b : Int64} (hk : k < 2 ^ 31) : xCall K mX12_both 1 0 0 [.int (nI k), .long a, .long b] h G (xRet (some (.long (jnQ k a b))) h G) := by
  refine x_entry (by decide) (ls := [(0, .int (nI k)), (1, .long a), (3, .long b)]) rfl (Nat.le_of_ble_eq_true rfl) ?_
  refine x_iload_n dX12_both_0 0 rfl ?_
  rcases xsw_2_14 (nI k) with c1 | c1 | c1 | c1 | c1 | c1 | c1 | c1 | c1 | c1 | c1 | c1 | c1 | c1 | c1
  · refine x_tableIn (tgt := 72) (off := 71) dX12_both_1 (by rw [c1]; decide) (by rw [c1]; decide) (by rw [c1]; rfl) (by decide) ?_
    refine x_lload_n dX12_both_72 1 rfl ?_
    refine x_lload_n dX12_both_73 2 rfl ?_
    refine x_ladd dX12_both_74 ?_
    exact x_lret dX12_both_75 rfl (xRet_e (by have e1 := (nI_eq hk (by decide)).mp c1; subst e1; simp [jnQ]) rfl)
  · refine x_tableIn (tgt := 76) (off := 75) dX12_both_1 (by rw [c1]; decide) (by rw [c1]; decide) (by rw [c1]; rfl) (by decide) ?_
    refine x_lload_n dX12_both_76 1 rfl ?_
    refine x_lload_n dX12_both_77 2 rfl ?_
    refine x_lsub dX12_both_78 ?_
    exact x_lret dX12_both_79 rfl (xRet_e (by have e1 := (nI_eq hk (by decide)).mp c1; subst e1; simp [jnQ]) rfl)
  · refine x_tableIn (tgt := 112) (off := 111) dX12_both_1 (by rw [c1]; decide) (by rw [c1]; decide) (by rw [c1]; rfl) (by decide) ?_
    refine x_lload_n dX12_both_112 1 rfl ?_
    refine x_lload_n dX12_both_113 2 rfl ?_
    refine x_lcmp dX12_both_114 ?_
    refine x_if_ge (tgt := 122) dX12_both_115 (by decide) (fun c115 => ?_) (fun c115 => ?_)
    · refine x_iconst dX12_both_122 ki_0 ?_
      refine x_cS (N := mX12_truth) (d' := 0) (mc := 0) (ms := 0) (cb := 0) (sb := 0) (As := [.int (nI 0)]) (st := []) dX12_both_123 mX12_truth_s lX12_352 rfl (by decide) (Nat.le_of_ble_eq_true rfl) (Md_truth_0) rfl (st1 := [.long 0]) rfl ?_
      exact x_lret dX12_both_126 rfl (xRet_e (by have e1 := (nI_eq hk (by decide)).mp c1; subst e1; simp only [lg_cmp_ge, lg_cmp_le, lg_cmp_gt, lg_cmp_lt, lg_cmp_eq] at c115; simp [jnQ, c115]) rfl)
    · refine x_iconst dX12_both_118 ki_1 ?_
      refine x_goto (tgt := 123) dX12_both_119 (by decide) ?_
      refine x_cS (N := mX12_truth) (d' := 0) (mc := 0) (ms := 0) (cb := 0) (sb := 0) (As := [.int (nI 1)]) (st := []) dX12_both_123 mX12_truth_s lX12_352 rfl (by decide) (Nat.le_of_ble_eq_true rfl) (Md_truth_1) rfl (st1 := [.long 1]) rfl ?_
      refine x_pc (pc' := 126) rfl ?_
      exact x_lret dX12_both_126 rfl (xRet_e (by have e1 := (nI_eq hk (by decide)).mp c1; subst e1; simp only [lg_cmp_ge, lg_cmp_le, lg_cmp_gt, lg_cmp_lt, lg_cmp_eq] at c115; simp [jnQ, c115]) rfl)
  · refine x_tableIn (tgt := 127) (off := 126) dX12_both_1 (by rw [c1]; decide) (by rw [c1]; decide) (by rw [c1]; rfl) (by decide) ?_
    refine x_lload_n dX12_both_127 1 rfl ?_
    refine x_lload_n dX12_both_128 2 rfl ?_
    refine x_lcmp dX12_both_129 ?_
    refine x_if_gt (tgt := 137) dX12_both_130 (by decide) (fun c130 => ?_) (fun c130 => ?_)
    · refine x_iconst dX12_both_137 ki_0 ?_
      refine x_cS (N := mX12_truth) (d' := 0) (mc := 0) (ms := 0) (cb := 0) (sb := 0) (As := [.int (nI 0)]) (st := []) dX12_both_138 mX12_truth_s lX12_352 rfl (by decide) (Nat.le_of_ble_eq_true rfl) (Md_truth_0) rfl (st1 := [.long 0]) rfl ?_
      exact x_lret dX12_both_141 rfl (xRet_e (by have e1 := (nI_eq hk (by decide)).mp c1; subst e1; simp only [lg_cmp_ge, lg_cmp_le, lg_cmp_gt, lg_cmp_lt, lg_cmp_eq] at c130; simp [jnQ, c130]) rfl)
    · refine x_iconst dX12_both_133 ki_1 ?_
      refine x_goto (tgt := 138) dX12_both_134 (by decide) ?_
      refine x_cS (N := mX12_truth) (d' := 0) (mc := 0) (ms := 0) (cb := 0) (sb := 0) (As := [.int (nI 1)]) (st := []) dX12_both_138 mX12_truth_s lX12_352 rfl (by decide) (Nat.le_of_ble_eq_true rfl) (Md_truth_1) rfl (st1 := [.long 1]) rfl ?_
      refine x_pc (pc' := 141) rfl ?_
      exact x_lret dX12_both_141 rfl (xRet_e (by have e1 := (nI_eq hk (by decide)).mp c1; subst e1; simp only [lg_cmp_ge, lg_cmp_le, lg_cmp_gt, lg_cmp_lt, lg_cmp_eq] at c130; simp [jnQ, c130]) rfl)
  · refine x_tableIn (tgt := 142) (off := 141) dX12_both_1 (by rw [c1]; decide) (by rw [c1]; decide) (by rw [c1]; rfl) (by decide) ?_
    refine x_lload_n dX12_both_142 1 rfl ?_
    refine x_lload_n dX12_both_143 2 rfl ?_
    refine x_lcmp dX12_both_144 ?_
    refine x_if_ne (tgt := 152) dX12_both_145 (by decide) (fun c145 => ?_) (fun c145 => ?_)
    · refine x_iconst dX12_both_152 ki_0 ?_
      refine x_cS (N := mX12_truth) (d' := 0) (mc := 0) (ms := 0) (cb := 0) (sb := 0) (As := [.int (nI 0)]) (st := []) dX12_both_153 mX12_truth_s lX12_352 rfl (by decide) (Nat.le_of_ble_eq_true rfl) (Md_truth_0) rfl (st1 := [.long 0]) rfl ?_
      exact x_lret dX12_both_156 rfl (xRet_e (by have e1 := (nI_eq hk (by decide)).mp c1; subst e1; simp only [lg_cmp_ge, lg_cmp_le, lg_cmp_gt, lg_cmp_lt, lg_cmp_eq] at c145; simp [jnQ, c145]) rfl)
    · refine x_iconst dX12_both_148 ki_1 ?_
      refine x_goto (tgt := 153) dX12_both_149 (by decide) ?_
      refine x_cS (N := mX12_truth) (d' := 0) (mc := 0) (ms := 0) (cb := 0) (sb := 0) (As := [.int (nI 1)]) (st := []) dX12_both_153 mX12_truth_s lX12_352 rfl (by decide) (Nat.le_of_ble_eq_true rfl) (Md_truth_1) rfl (st1 := [.long 1]) rfl ?_
      refine x_pc (pc' := 156) rfl ?_
      exact x_lret dX12_both_156 rfl (xRet_e (by have e1 := (nI_eq hk (by decide)).mp c1; subst e1; simp only [lg_cmp_ge, lg_cmp_le, lg_cmp_gt, lg_cmp_lt, lg_cmp_eq] at c145; simp [jnQ, c145]) rfl)
  · refine x_tableIn (tgt := 157) (off := 156) dX12_both_1 (by rw [c1]; decide) (by rw [c1]; decide) (by rw [c1]; rfl) (by decide) ?_
    refine x_lload_n dX12_both_157 1 rfl ?_
    refine x_lload_n dX12_both_158 2 rfl ?_
    refine x_lcmp dX12_both_159 ?_
    refine x_if_lt (tgt := 167) dX12_both_160 (by decide) (fun c160 => ?_) (fun c160 => ?_)
    · refine x_iconst dX12_both_167 ki_0 ?_
      refine x_cS (N := mX12_truth) (d' := 0) (mc := 0) (ms := 0) (cb := 0) (sb := 0) (As := [.int (nI 0)]) (st := []) dX12_both_168 mX12_truth_s lX12_352 rfl (by decide) (Nat.le_of_ble_eq_true rfl) (Md_truth_0) rfl (st1 := [.long 0]) rfl ?_
      exact x_lret dX12_both_171 rfl (xRet_e (by have e1 := (nI_eq hk (by decide)).mp c1; subst e1; simp only [lg_cmp_ge, lg_cmp_le, lg_cmp_gt, lg_cmp_lt, lg_cmp_eq] at c160; simp [jnQ, c160]) rfl)
    · refine x_iconst dX12_both_163 ki_1 ?_
      refine x_goto (tgt := 168) dX12_both_164 (by decide) ?_
      refine x_cS (N := mX12_truth) (d' := 0) (mc := 0) (ms := 0) (cb := 0) (sb := 0) (As := [.int (nI 1)]) (st := []) dX12_both_168 mX12_truth_s lX12_352 rfl (by decide) (Nat.le_of_ble_eq_true rfl) (Md_truth_1) rfl (st1 := [.long 1]) rfl ?_
      refine x_pc (pc' := 171) rfl ?_
      exact x_lret dX12_both_171 rfl (xRet_e (by have e1 := (nI_eq hk (by decide)).mp c1; subst e1; simp only [lg_cmp_ge, lg_cmp_le, lg_cmp_gt, lg_cmp_lt, lg_cmp_eq] at c160; simp [jnQ, c160]) rfl)
  · refine x_tableIn (tgt := 172) (off := 171) dX12_both_1 (by rw [c1]; decide) (by rw [c1]; decide) (by rw [c1]; rfl) (by decide) ?_
    refine x_lload_n dX12_both_172 1 rfl ?_
    refine x_lload_n dX12_both_173 2 rfl ?_
    refine x_lcmp dX12_both_174 ?_
    refine x_if_le (tgt := 182) dX12_both_175 (by decide) (fun c175 => ?_) (fun c175 => ?_)
    · refine x_iconst dX12_both_182 ki_0 ?_
      refine x_cS (N := mX12_truth) (d' := 0) (mc := 0) (ms := 0) (cb := 0) (sb := 0) (As := [.int (nI 0)]) (st := []) dX12_both_183 mX12_truth_s lX12_352 rfl (by decide) (Nat.le_of_ble_eq_true rfl) (Md_truth_0) rfl (st1 := [.long 0]) rfl ?_
      exact x_lret dX12_both_186 rfl (xRet_e (by have e1 := (nI_eq hk (by decide)).mp c1; subst e1; simp only [lg_cmp_ge, lg_cmp_le, lg_cmp_gt, lg_cmp_lt, lg_cmp_eq] at c175; simp [jnQ, c175]) rfl)
    · refine x_iconst dX12_both_178 ki_1 ?_
      refine x_goto (tgt := 183) dX12_both_179 (by decide) ?_
      refine x_cS (N := mX12_truth) (d' := 0) (mc := 0) (ms := 0) (cb := 0) (sb := 0) (As := [.int (nI 1)]) (st := []) dX12_both_183 mX12_truth_s lX12_352 rfl (by decide) (Nat.le_of_ble_eq_true rfl) (Md_truth_1) rfl (st1 := [.long 1]) rfl ?_
      refine x_pc (pc' := 186) rfl ?_
      exact x_lret dX12_both_186 rfl (xRet_e (by have e1 := (nI_eq hk (by decide)).mp c1; subst e1; simp only [lg_cmp_ge, lg_cmp_le, lg_cmp_gt, lg_cmp_lt, lg_cmp_eq] at c175; simp [jnQ, c175]) rfl)
  · refine x_tableIn (tgt := 191) (off := 190) dX12_both_1 (by rw [c1]; decide) (by rw [c1]; decide) (by rw [c1]; rfl) (by decide) ?_
    refine x_lload_n dX12_both_191 1 rfl ?_
    refine x_lload_n dX12_both_192 2 rfl ?_
    refine x_lor dX12_both_193 ?_
    exact x_lret dX12_both_194 rfl (xRet_e (by have e1 := (nI_eq hk (by decide)).mp c1; subst e1; simp [jnQ]) rfl)
  · refine x_tableIn (tgt := 187) (off := 186) dX12_both_1 (by rw [c1]; decide) (by rw [c1]; decide) (by rw [c1]; rfl) (by decide) ?_
    refine x_lload_n dX12_both_187 1 rfl ?_
    refine x_lload_n dX12_both_188 2 rfl ?_
    refine x_land dX12_both_189 ?_
    exact x_lret dX12_both_190 rfl (xRet_e (by have e1 := (nI_eq hk (by decide)).mp c1; subst e1; simp [jnQ]) rfl)
  · refine x_tableIn (tgt := 191) (off := 190) dX12_both_1 (by rw [c1]; decide) (by rw [c1]; decide) (by rw [c1]; rfl) (by decide) ?_
    refine x_lload_n dX12_both_191 1 rfl ?_
    refine x_lload_n dX12_both_192 2 rfl ?_
    refine x_lor dX12_both_193 ?_
    exact x_lret dX12_both_194 rfl (xRet_e (by have e1 := (nI_eq hk (by decide)).mp c1; subst e1; simp [jnQ]) rfl)
  · refine x_tableIn (tgt := 191) (off := 190) dX12_both_1 (by rw [c1]; decide) (by rw [c1]; decide) (by rw [c1]; rfl) (by decide) ?_
    refine x_lload_n dX12_both_191 1 rfl ?_
    refine x_lload_n dX12_both_192 2 rfl ?_
    refine x_lor dX12_both_193 ?_
    exact x_lret dX12_both_194 rfl (xRet_e (by have e1 := (nI_eq hk (by decide)).mp c1; subst e1; simp [jnQ]) rfl)
  · refine x_tableIn (tgt := 80) (off := 79) dX12_both_1 (by rw [c1]; decide) (by rw [c1]; decide) (by rw [c1]; rfl) (by decide) ?_
    refine x_lload_n dX12_both_80 1 rfl ?_
    refine x_lload_n dX12_both_81 2 rfl ?_
    refine x_lmul dX12_both_82 ?_
    exact x_lret dX12_both_83 rfl (xRet_e (by have e1 := (nI_eq hk (by decide)).mp c1; subst e1; simp [jnQ]) rfl)
  · refine x_tableIn (tgt := 84) (off := 83) dX12_both_1 (by rw [c1]; decide) (by rw [c1]; decide) (by rw [c1]; rfl) (by decide) ?_
    refine x_lload_n dX12_both_84 2 rfl ?_
    refine x_lconst (v := 0) dX12_both_85 rfl ?_
    refine x_lcmp dX12_both_86 ?_
    refine x_if_ne (tgt := 94) dX12_both_87 (by decide) (fun c87 => ?_) (fun c87 => ?_)
    · refine x_lload_n dX12_both_94 1 rfl ?_
      refine x_lload_n dX12_both_95 2 rfl ?_
      refine x_ldiv dX12_both_96 (fun q => c87 ((lg_cmp_eq _ _).mpr q)) ?_
      refine x_pc (pc' := 97) rfl ?_
      exact x_lret dX12_both_97 rfl (xRet_e (by have e1 := (nI_eq hk (by decide)).mp c1; subst e1; simp only [lg_cmp_ge, lg_cmp_le, lg_cmp_gt, lg_cmp_lt, lg_cmp_eq] at c87; simp [jnQ, c87]) rfl)
    · refine x_lconst (v := 0) dX12_both_90 rfl ?_
      refine x_goto (tgt := 97) dX12_both_91 (by decide) ?_
      exact x_lret dX12_both_97 rfl (xRet_e (by have e1 := (nI_eq hk (by decide)).mp c1; subst e1; simp only [lg_cmp_ge, lg_cmp_le, lg_cmp_gt, lg_cmp_lt, lg_cmp_eq] at c87; simp [jnQ, c87]) rfl)
  · refine x_tableIn (tgt := 98) (off := 97) dX12_both_1 (by rw [c1]; decide) (by rw [c1]; decide) (by rw [c1]; rfl) (by decide) ?_
    refine x_lload_n dX12_both_98 2 rfl ?_
    refine x_lconst (v := 0) dX12_both_99 rfl ?_
    refine x_lcmp dX12_both_100 ?_
    refine x_if_ne (tgt := 108) dX12_both_101 (by decide) (fun c101 => ?_) (fun c101 => ?_)
    · refine x_lload_n dX12_both_108 1 rfl ?_
      refine x_lload_n dX12_both_109 2 rfl ?_
      refine x_lrem dX12_both_110 (fun q => c101 ((lg_cmp_eq _ _).mpr q)) ?_
      refine x_pc (pc' := 111) rfl ?_
      exact x_lret dX12_both_111 rfl (xRet_e (by have e1 := (nI_eq hk (by decide)).mp c1; subst e1; simp only [lg_cmp_ge, lg_cmp_le, lg_cmp_gt, lg_cmp_lt, lg_cmp_eq] at c101; simp [jnQ, c101]) rfl)
    · refine x_lconst (v := 0) dX12_both_104 rfl ?_
      refine x_goto (tgt := 111) dX12_both_105 (by decide) ?_
      exact x_lret dX12_both_111 rfl (xRet_e (by have e1 := (nI_eq hk (by decide)).mp c1; subst e1; simp only [lg_cmp_ge, lg_cmp_le, lg_cmp_gt, lg_cmp_lt, lg_cmp_eq] at c101; simp [jnQ, c101]) rfl)
  · refine x_tableOut (tgt := 191) dX12_both_1 (by omega) (by decide) ?_
    refine x_lload_n dX12_both_191 1 rfl ?_
    refine x_lload_n dX12_both_192 2 rfl ?_
    refine x_lor dX12_both_193 ?_
    exact x_lret dX12_both_194 rfl (xRet_e (by rw [jnQ_out (by rw [nI_toInt hk] at c1; omega)]) rfl)
theorem Md_answer_loop {K : xG} {h y w fr un : Nat} {G0 : xHp} {hl : xHl} {r : xRw} {sc : Nat × Nat × Int32} {A : Nat → Nat → Int32} {F : Nat → Int32} {wa : Nat → Int64} {E : List Nat} {v : Int64} (hE : RefE A w E) (hw : w < 6) (hu : un ≤ E.length) : ∀ (rest : List Nat) (k : Nat) (stk : List Int64) (sk : Nat → Int64) (G1 : xHp), k + rest.length = un → (E.drop k).take (un - k) = rest → stk.length ≤ k → evR wa rest stk = some [v] → skOk sk stk → MW G0 G1 y hl r sc A F wa sk → xV K mX12_answer 2 0 0 h G1 6 [(5, .int (nI k)), (4, .int (nI stk.length)), (0, .ref y), (1, .int (nI w)), (2, .int (nI fr)), (3, .int (nI un))] [] (xEx (fun e : (Nat → Int64) × xHp => MW G0 e.2 y hl r sc A F wa e.1) (fun _ => some (.long v)) (fun _ => h) (fun e => e.2)) := by
  obtain ⟨hE1, hE2⟩ := hE
  intro rest
  induction rest with
  | nil =>
    intro k stk sk G1 hk hseg hst hev hsk hM1
    have hk0 : k = un := by simpa using hk
    have hev2 : stk = [v] := by simpa [evR] using hev
    subst hev2
    refine x_leq (ls' := [(5, .int (nI k)), (4, .int (nI 1)), (0, .ref y), (1, .int (nI w)), (2, .int (nI fr)), (3, .int (nI un))]) rfl ?_
    refine x_iload dX12_answer_6 0 rfl ?_
    refine x_iload_n dX12_answer_8 5 rfl ?_
    refine x_icmpN_ge (tgt := 153) dX12_answer_9 (by decide) (by omega) (by omega) (fun c9 => ?_) (fun c9 => ?_)
    · refine x_aload_n dX12_answer_153 2 rfl ?_
      refine x_get (v := .ref (y + 36)) dX12_answer_154 fX12_121 (hM1.1) rfl ?_
      refine x_iconst dX12_answer_157 ki_0 ?_
      refine x_laldN (n := 300) (f := sk) dX12_answer_158 (hM1.c36) (by decide) (by decide) ?_
      refine x_topl (y := v) hsk.1 ?_
      exact x_lret dX12_answer_159 rfl (xEx_i (sk, G1) hM1 rfl rfl rfl)
    · exact absurd c9 (by omega)
  | cons s0 ss ih =>
    intro k stk sk G1 hk hseg hst hev hsk hM1
    obtain ⟨g1, g2, g3, g4⟩ := seg_get hseg
    rw [show un - k - 1 = un - (k + 1) by omega] at g2
    obtain ⟨e1, e2, e3, e4⟩ := hE2 k g3
    rw [g1] at e1 e2 e3 e4
    obtain ⟨q1, q2, q3, q4⟩ := kR_c _ e3
    have hop : s0 % 1048576 < 1048576 := Nat.mod_lt _ (by decide)
    simp only [List.length_cons] at hk
    refine x_iload dX12_answer_6 0 rfl ?_
    refine x_iload_n dX12_answer_8 5 rfl ?_
    refine x_icmpN_ge (tgt := 153) dX12_answer_9 (by decide) (by omega) (by omega) (fun c9 => ?_) (fun c9 => ?_)
    · exact absurd c9 (by omega)
    · refine x_aload_n dX12_answer_12 2 rfl ?_
      refine x_get (v := .ref (y + 28)) dX12_answer_13 fX12_96 (hM1.1) rfl ?_
      refine x_sipush dX12_answer_16 ks_300 ?_
      refine x_iload_n dX12_answer_19 3 rfl ?_
      refine x_imulN dX12_answer_20 ?_
      refine x_iload dX12_answer_21 0 rfl ?_
      refine x_pc (pc' := 23) rfl ?_
      refine x_iaddN dX12_answer_23 ?_
      refine x_ialdN (n := 1800) (f := A 28) dX12_answer_24 (hM1.c28) (by omega) (by decide) ?_
      refine x_topi (y := nI (kR (s0 / 1048576))) (e1) ?_
      refine x_istore (ls' := [(6, .int (nI (kR (s0 / 1048576)))), (5, .int (nI k)), (4, .int (nI stk.length)), (0, .ref y), (1, .int (nI w)), (2, .int (nI fr)), (3, .int (nI un))]) dX12_answer_25 (by decide) rfl ?_
      refine x_aload_n dX12_answer_27 3 rfl ?_
      refine x_get (v := .ref (y + 29)) dX12_answer_28 fX12_99 (hM1.1) rfl ?_
      refine x_sipush dX12_answer_31 ks_300 ?_
      refine x_iload_n dX12_answer_34 4 rfl ?_
      refine x_imulN dX12_answer_35 ?_
      refine x_iload dX12_answer_36 1 rfl ?_
      refine x_iaddN dX12_answer_38 ?_
      refine x_pc (pc' := 39) rfl ?_
      refine x_ialdN (n := 1800) (f := A 29) dX12_answer_39 (hM1.c29) (by omega) (by decide) ?_
      refine x_topi (y := nI (s0 % 1048576)) (e2) ?_
      refine x_istore (ls' := [(7, .int (nI (s0 % 1048576))), (6, .int (nI (kR (s0 / 1048576)))), (5, .int (nI k)), (4, .int (nI stk.length)), (0, .ref y), (1, .int (nI w)), (2, .int (nI fr)), (3, .int (nI un))]) dX12_answer_40 (by decide) rfl ?_
      refine x_iload dX12_answer_42 1 rfl ?_
      refine x_ifN_eq (tgt := 53) dX12_answer_44 (by decide) (by omega) (fun c44 => ?_) (fun c44 => ?_)
      · refine x_aload_n dX12_answer_53 4 rfl ?_
        refine x_get (v := .ref (y + 36)) dX12_answer_54 fX12_121 (hM1.1) rfl ?_
        refine x_iload dX12_answer_57 3 rfl ?_
        refine x_iload dX12_answer_59 1 rfl ?_
        refine x_ifN_ne (tgt := 70) dX12_answer_61 (by decide) (by omega) (fun c61 => ?_) (fun c61 => ?_)
        · exact absurd c44 c61
        · refine x_iload dX12_answer_64 0 rfl ?_
          refine x_pc (pc' := 66) rfl ?_
          refine x_i2l dX12_answer_66 ?_
          refine x_goto (tgt := 77) dX12_answer_67 (by decide) ?_
          refine x_lastN (n := 300) (f := sk) dX12_answer_77 (hM1.c36) (by omega) (by decide) ?_
          have hM1 := hM1.ls (vp_updL sk stk.length ((nI (s0 % 1048576)).toInt64))
          refine x_iinc (v := nI (stk.length + 1)) (ls' := [(4, .int (nI (stk.length + 1))), (7, .int (nI (s0 % 1048576))), (6, .int (nI (kR (s0 / 1048576)))), (5, .int (nI k)), (0, .ref y), (1, .int (nI w)), (2, .int (nI fr)), (3, .int (nI un))]) dX12_answer_78 3 rfl (nIs _) (by decide) rfl ?_
          refine x_goto (tgt := 147) dX12_answer_81 (by decide) ?_
          refine x_iinc (v := nI (k + 1)) (ls' := [(5, .int (nI (k + 1))), (4, .int (nI (stk.length + 1))), (7, .int (nI (s0 % 1048576))), (6, .int (nI (kR (s0 / 1048576)))), (0, .ref y), (1, .int (nI w)), (2, .int (nI fr)), (3, .int (nI un))]) dX12_answer_147 3 rfl (nIs _) (by decide) rfl ?_
          refine x_goto (tgt := 6) dX12_answer_150 (by decide) ?_
          refine x_perm (ls' := [(5, .int (nI (k + 1))), (4, .int (nI (stk.length + 1))), (0, .ref y), (1, .int (nI w)), (2, .int (nI fr)), (3, .int (nI un))]) [0, 1, 4, 5, 6, 7] rfl ?_
          refine x_leq (ls' := [(5, .int (nI (k + 1))), (4, .int (nI ((nI (s0 % 1048576)).toInt64 :: stk).length)), (0, .ref y), (1, .int (nI w)), (2, .int (nI fr)), (3, .int (nI un))]) rfl ?_
          exact ih (k + 1) ((nI (s0 % 1048576)).toInt64 :: stk) _ _ (by omega) g2 (by simp only [List.length_cons]; omega) ((evR_n (q2.mp c44)).symm.trans hev) ⟨pk_uLs, skOk_up (Nat.le_refl _) hsk⟩ hM1
      · refine x_iload dX12_answer_47 1 rfl ?_
        refine x_iconst dX12_answer_49 ki_1 ?_
        refine x_icmpN_ne (tgt := 84) dX12_answer_50 (by decide) (by omega) (by omega) (fun c50 => ?_) (fun c50 => ?_)
        · refine x_iload dX12_answer_84 1 rfl ?_
          refine x_bipush dX12_answer_86 kb_9 ?_
          refine x_icmpN_ne (tgt := 114) dX12_answer_88 (by decide) (by omega) (by omega) (fun c88 => ?_) (fun c88 => ?_)
          · obtain ⟨b, a, rr, hs2, hev2⟩ := evR_j (fun q => c44 (q2.mpr q)) (fun q => c50 (q3.mpr q)) (fun q => c88 (q4.mpr q)) hev
            subst hs2
            simp only [List.length_cons] at hst
            refine x_leq (ls' := [(7, .int (nI (s0 % 1048576))), (6, .int (nI (kR (s0 / 1048576)))), (5, .int (nI k)), (4, .int (nI (rr.length + 1 + 1))), (0, .ref y), (1, .int (nI w)), (2, .int (nI fr)), (3, .int (nI un))]) rfl ?_
            refine x_pc (pc' := 114) rfl ?_
            refine x_iinc (v := nI ((rr.length + 1 + 1) - 1)) (ls' := [(4, .int (nI ((rr.length + 1 + 1) - 1))), (7, .int (nI (s0 % 1048576))), (6, .int (nI (kR (s0 / 1048576)))), (5, .int (nI k)), (0, .ref y), (1, .int (nI w)), (2, .int (nI fr)), (3, .int (nI un))]) dX12_answer_114 3 rfl (nId (by omega)) (by decide) rfl ?_
            refine x_aload_n dX12_answer_117 4 rfl ?_
            refine x_get (v := .ref (y + 36)) dX12_answer_118 fX12_121 (hM1.1) rfl ?_
            refine x_iload dX12_answer_121 0 rfl ?_
            refine x_iconst dX12_answer_123 ki_1 ?_
            refine x_isubN dX12_answer_124 (by omega) ?_
            refine x_iload dX12_answer_125 2 rfl ?_
            refine x_aload_n dX12_answer_127 4 rfl ?_
            refine x_get (v := .ref (y + 36)) dX12_answer_128 fX12_121 (hM1.1) rfl ?_
            refine x_iload dX12_answer_131 0 rfl ?_
            refine x_pc (pc' := 133) rfl ?_
            refine x_iconst dX12_answer_133 ki_1 ?_
            refine x_isubN dX12_answer_134 (by omega) ?_
            refine x_laldN (n := 300) (f := sk) dX12_answer_135 (hM1.c36) (by omega) (by decide) ?_
            refine x_topl (y := a) (by rw [show rr.length + 1 + 1 - 1 - 1 = rr.length by omega]; exact hsk.2.1) ?_
            refine x_aload_n dX12_answer_136 4 rfl ?_
            refine x_get (v := .ref (y + 36)) dX12_answer_137 fX12_121 (hM1.1) rfl ?_
            refine x_iload dX12_answer_140 0 rfl ?_
            refine x_laldN (n := 300) (f := sk) dX12_answer_142 (hM1.c36) (by omega) (by decide) ?_
            refine x_topl (y := b) (by rw [show rr.length + 1 + 1 - 1 = rr.length + 1 by omega]; exact hsk.1) ?_
            refine x_cS (N := mX12_both) (d' := 1) (mc := 0) (ms := 0) (cb := 0) (sb := 0) (As := [.int (nI (kR (s0 / 1048576))), .long a, .long b]) (st := [.int (nI (((rr.length + 1 + 1) - 1) - 1)), .ref (y + 36)]) dX12_answer_143 mX12_both_s lX12_356 rfl (by decide) (Nat.le_of_ble_eq_true rfl) (Md_both (by omega)) rfl (st1 := [.long (jnQ (kR (s0 / 1048576)) a b), .int (nI (((rr.length + 1 + 1) - 1) - 1)), .ref (y + 36)]) rfl ?_
            refine x_topl (y := jn (s0 / 1048576) a b) (jnQ_R _ (by have := q2; have := q3; omega) (by have := q4; omega) a b) ?_
            refine x_lastN (n := 300) (f := sk) dX12_answer_146 (hM1.c36) (by omega) (by decide) ?_
            have hM2 := hM1.ls (vp_updL sk (((rr.length + 1 + 1) - 1) - 1) (jn (s0 / 1048576) a b))
            refine x_iinc (v := nI (k + 1)) (ls' := [(5, .int (nI (k + 1))), (4, .int (nI ((rr.length + 1 + 1) - 1))), (7, .int (nI (s0 % 1048576))), (6, .int (nI (kR (s0 / 1048576)))), (0, .ref y), (1, .int (nI w)), (2, .int (nI fr)), (3, .int (nI un))]) dX12_answer_147 3 rfl (nIs _) (by decide) rfl ?_
            refine x_pc (pc' := 150) rfl ?_
            refine x_goto (tgt := 6) dX12_answer_150 (by decide) ?_
            refine x_perm (ls' := [(5, .int (nI (k + 1))), (4, .int (nI ((rr.length + 1 + 1) - 1))), (0, .ref y), (1, .int (nI w)), (2, .int (nI fr)), (3, .int (nI un))]) [0, 1, 4, 5, 6, 7] rfl ?_
            refine x_leq (ls' := [(5, .int (nI (k + 1))), (4, .int (nI (jn (s0 / 1048576) a b :: rr).length)), (0, .ref y), (1, .int (nI w)), (2, .int (nI fr)), (3, .int (nI un))]) (by rw [show rr.length + 1 + 1 - 1 = rr.length + 1 by omega]; rfl) ?_
            exact ih (k + 1) (jn (s0 / 1048576) a b :: rr) _ _ (by omega) g2 (by simp only [List.length_cons]; omega) hev2 ⟨by rw [show rr.length + 1 + 1 - 1 - 1 = rr.length by omega]; exact pk_uLs, by rw [show rr.length + 1 + 1 - 1 - 1 = rr.length by omega]; exact skOk_up (Nat.le_refl _) hsk.2.2⟩ hM2
          · obtain ⟨a, rr, hs2, hev2⟩ := evR_not (q4.mp c88) hev
            subst hs2
            simp only [List.length_cons] at hst
            refine x_leq (ls' := [(7, .int (nI (s0 % 1048576))), (6, .int (nI (kR (s0 / 1048576)))), (5, .int (nI k)), (4, .int (nI (rr.length + 1))), (0, .ref y), (1, .int (nI w)), (2, .int (nI fr)), (3, .int (nI un))]) rfl ?_
            refine x_pc (pc' := 91) rfl ?_
            refine x_aload_n dX12_answer_91 4 rfl ?_
            refine x_get (v := .ref (y + 36)) dX12_answer_92 fX12_121 (hM1.1) rfl ?_
            refine x_iload dX12_answer_95 3 rfl ?_
            refine x_iconst dX12_answer_97 ki_1 ?_
            refine x_isubN dX12_answer_98 (by omega) ?_
            refine x_lconst (v := 1) dX12_answer_99 rfl ?_
            refine x_aload_n dX12_answer_100 4 rfl ?_
            refine x_get (v := .ref (y + 36)) dX12_answer_101 fX12_121 (hM1.1) rfl ?_
            refine x_iload dX12_answer_104 3 rfl ?_
            refine x_iconst dX12_answer_106 ki_1 ?_
            refine x_pc (pc' := 107) rfl ?_
            refine x_isubN dX12_answer_107 (by omega) ?_
            refine x_laldN (n := 300) (f := sk) dX12_answer_108 (hM1.c36) (by omega) (by decide) ?_
            refine x_topl (y := a) (by rw [show rr.length + 1 - 1 = rr.length by omega]; exact hsk.1) ?_
            refine x_lsub dX12_answer_109 ?_
            refine x_lastN (n := 300) (f := sk) dX12_answer_110 (hM1.c36) (by omega) (by decide) ?_
            have hM3 := hM1.ls (vp_updL sk ((rr.length + 1) - 1) (1 - a))
            refine x_goto (tgt := 147) dX12_answer_111 (by decide) ?_
            refine x_iinc (v := nI (k + 1)) (ls' := [(5, .int (nI (k + 1))), (7, .int (nI (s0 % 1048576))), (6, .int (nI (kR (s0 / 1048576)))), (4, .int (nI (rr.length + 1))), (0, .ref y), (1, .int (nI w)), (2, .int (nI fr)), (3, .int (nI un))]) dX12_answer_147 2 rfl (nIs _) (by decide) rfl ?_
            refine x_goto (tgt := 6) dX12_answer_150 (by decide) ?_
            refine x_perm (ls' := [(5, .int (nI (k + 1))), (4, .int (nI (rr.length + 1))), (0, .ref y), (1, .int (nI w)), (2, .int (nI fr)), (3, .int (nI un))]) [0, 3, 4, 5, 6, 7] rfl ?_
            refine x_leq (ls' := [(5, .int (nI (k + 1))), (4, .int (nI ((1 - a) :: rr).length)), (0, .ref y), (1, .int (nI w)), (2, .int (nI fr)), (3, .int (nI un))]) rfl ?_
            exact ih (k + 1) ((1 - a) :: rr) _ _ (by omega) g2 (by simp only [List.length_cons]; omega) hev2 ⟨by rw [show rr.length + 1 - 1 = rr.length by omega]; exact pk_uLs, by rw [show rr.length + 1 - 1 = rr.length by omega]; exact skOk_up (Nat.le_refl _) hsk.2⟩ hM3
        · have hwd := e4 (q3.mp c50)
          refine x_aload_n dX12_answer_53 4 rfl ?_
          refine x_get (v := .ref (y + 36)) dX12_answer_54 fX12_121 (hM1.1) rfl ?_
          refine x_iload dX12_answer_57 3 rfl ?_
          refine x_pc (pc' := 59) rfl ?_
          refine x_iload dX12_answer_59 1 rfl ?_
          refine x_ifN_ne (tgt := 70) dX12_answer_61 (by decide) (by omega) (fun c61 => ?_) (fun c61 => ?_)
          · refine x_aload_n dX12_answer_70 4 rfl ?_
            refine x_get (v := .ref (y + 35)) dX12_answer_71 fX12_117 (hM1.1) rfl ?_
            refine x_iload dX12_answer_74 0 rfl ?_
            refine x_laldN (n := 12) (f := wa) dX12_answer_76 (hM1.c35) (by omega) (by decide) ?_
            refine x_lastN (n := 300) (f := sk) dX12_answer_77 (hM1.c36) (by omega) (by decide) ?_
            have hM4 := hM1.ls (vp_updL sk stk.length (wa (s0 % 1048576)))
            refine x_iinc (v := nI (stk.length + 1)) (ls' := [(4, .int (nI (stk.length + 1))), (7, .int (nI (s0 % 1048576))), (6, .int (nI (kR (s0 / 1048576)))), (5, .int (nI k)), (0, .ref y), (1, .int (nI w)), (2, .int (nI fr)), (3, .int (nI un))]) dX12_answer_78 3 rfl (nIs _) (by decide) rfl ?_
            refine x_goto (tgt := 147) dX12_answer_81 (by decide) ?_
            refine x_iinc (v := nI (k + 1)) (ls' := [(5, .int (nI (k + 1))), (4, .int (nI (stk.length + 1))), (7, .int (nI (s0 % 1048576))), (6, .int (nI (kR (s0 / 1048576)))), (0, .ref y), (1, .int (nI w)), (2, .int (nI fr)), (3, .int (nI un))]) dX12_answer_147 3 rfl (nIs _) (by decide) rfl ?_
            refine x_pc (pc' := 150) rfl ?_
            refine x_goto (tgt := 6) dX12_answer_150 (by decide) ?_
            refine x_perm (ls' := [(5, .int (nI (k + 1))), (4, .int (nI (stk.length + 1))), (0, .ref y), (1, .int (nI w)), (2, .int (nI fr)), (3, .int (nI un))]) [0, 1, 4, 5, 6, 7] rfl ?_
            refine x_leq (ls' := [(5, .int (nI (k + 1))), (4, .int (nI (wa (s0 % 1048576) :: stk).length)), (0, .ref y), (1, .int (nI w)), (2, .int (nI fr)), (3, .int (nI un))]) rfl ?_
            exact ih (k + 1) (wa (s0 % 1048576) :: stk) _ _ (by omega) g2 (by simp only [List.length_cons]; omega) ((evR_w (q3.mp c50)).symm.trans hev) ⟨pk_uLs, skOk_up (Nat.le_refl _) hsk⟩ hM4
          · exact absurd c61 c44
theorem Md_answer {K : xG} {h y w fr un : Nat} {G0 : xHp} {hl : xHl} {r : xRw} {sc : Nat × Nat × Int32} {A : Nat → Nat → Int32} {F : Nat → Int32} {wa : Nat → Int64} {E : List Nat} {v : Int64} {G : xHp} {sa : Nat → Int64} (hM : MW G0 G y hl r sc A F wa sa) (hE : RefE A w E) (hw : w < 6) (hu : un ≤ E.length) (hfu : fr ≤ un) (hev : evR wa ((E.drop fr).take (un - fr)) [] = some [v]) : xCall K mX12_answer 2 0 0 [.ref y, .int (nI w), .int (nI fr), .int (nI un)] h G (xEx (fun e : (Nat → Int64) × xHp => MW G0 e.2 y hl r sc A F wa e.1) (fun _ => some (.long v)) (fun _ => h) (fun e => e.2)) := by
  refine x_entry (by decide) (ls := [(0, .ref y), (1, .int (nI w)), (2, .int (nI fr)), (3, .int (nI un))]) rfl (Nat.le_of_ble_eq_true rfl) ?_
  refine x_iconst dX12_answer_0 ki_0 ?_
  refine x_istore (ls' := [(4, .int (nI 0)), (0, .ref y), (1, .int (nI w)), (2, .int (nI fr)), (3, .int (nI un))]) dX12_answer_1 (by decide) rfl ?_
  refine x_iload_n dX12_answer_3 3 rfl ?_
  refine x_istore (ls' := [(5, .int (nI fr)), (4, .int (nI 0)), (0, .ref y), (1, .int (nI w)), (2, .int (nI fr)), (3, .int (nI un))]) dX12_answer_4 (by decide) rfl ?_
  exact Md_answer_loop hE hw hu _ fr [] sa G (by rw [List.length_take, List.length_drop]; omega) rfl (by simp) hev trivial hM
