/-! ===== bytes on both tapes ===== -/
theorem i32_nat (x : Int32) : x.toInt = if 2 * x.toBitVec.toNat < 4294967296 then (x.toBitVec.toNat : Int) else (x.toBitVec.toNat : Int) - 4294967296 := BitVec.toInt_eq_toNat_cond x.toBitVec
theorem i32_lt (x : Int32) : x.toBitVec.toNat < 4294967296 := x.toBitVec.isLt
theorem and255N (w : Int32) : thN (w &&& nI 255) = w.toBitVec.toNat % 256 := by
  obtain ⟨h1, h2⟩ := and255 w
  have e : (w &&& nI 255).toBitVec.toNat = w.toBitVec.toNat % 256 := by
    show (w.toBitVec &&& (nI 255).toBitVec).toNat = _
    rw [BitVec.toNat_and, show (nI 255).toBitVec.toNat = 2 ^ 8 - 1 by decide]
    exact Nat.and_two_pow_sub_one_eq_mod _ 8
  generalize thN (w &&& nI 255) = n at h1 h2 ⊢
  rw [h1] at e
  have k := i32_nat (nI n)
  rw [nI_toInt (by omega)] at k
  have b := i32_lt (nI n)
  split at k <;> omega
theorem byte_z (w : Int32) : (w.toInt8.toInt32).toInt = w.toInt.bmod 256 := (Int8.toInt_toInt32 _).trans (Int32.toInt_toInt8 w)
theorem byte_i (w : Int32) : (w.toInt8.toInt32 &&& nI 255 = nI (thN (w &&& nI 255))) ∧ (thN (w &&& nI 255) < 128 → w.toInt8.toInt32 = nI (thN (w &&& nI 255))) ∧ (128 ≤ thN (w &&& nI 255) → w.toInt8.toInt32 < 0) := by
  have z := byte_z w
  have kw := i32_nat w
  have bw := i32_lt w
  have nw := and255N w
  have a1 := (and255 (w.toInt8.toInt32)).1
  have n1 := and255N (w.toInt8.toInt32)
  have k1 := i32_nat (w.toInt8.toInt32)
  have b1 := i32_lt (w.toInt8.toInt32)
  rw [Int.bmod_def] at z
  generalize w.toInt8.toInt32 = u at *
  have en : thN (u &&& nI 255) = thN (w &&& nI 255) := by
    rw [n1, nw]
    split at z <;> split at kw <;> split at k1 <;> omega
  refine ⟨by rw [a1, en], fun h => ?_, fun h => ?_⟩
  · apply Int32.toInt_inj.mp
    rw [nI_toInt (by omega)]
    rw [nw] at h ⊢
    split at z <;> split at kw <;> omega
  · apply Int32.lt_iff_toInt_lt.mpr
    rw [show (0 : Int32).toInt = 0 by decide]
    rw [nw] at h
    split at z <;> split at kw <;> omega
theorem bb_i (v : Int32) (i : Nat) : bb v i &&& nI 255 = nI (byB v i) ∧ byB v i < 256 ∧ (byB v i < 128 → bb v i = nI (byB v i)) ∧ (128 ≤ byB v i → bb v i < 0) := by
  have e : bb v i = (v >>> (nI (24 - 8 * i) &&& 31)).toInt8.toInt32 := by
    unfold bb
    rw [vp_nar_byte]
    simp
  obtain ⟨h1, h2, h3⟩ := byte_i (v >>> (nI (24 - 8 * i) &&& 31))
  rw [e]
  exact ⟨h1, (and255 _).2, h2, h3⟩
theorem TpE.put {f : Nat → Int32} {tp : Nat → Nat} (h : TpE f tp) (tn : Nat) (v : Int32) : TpE (bpF f tn v) (putF tp tn v) := fun j hj => by
  unfold bpF putF
  by_cases h3 : j = tn + 1 + 1 + 1
  · subst h3; rw [upd_at, if_pos (by omega), show tn + 1 + 1 + 1 - tn = 3 by omega]; exact bb_i v 3
  · rw [upd_off h3]
    by_cases h2 : j = tn + 1 + 1
    · subst h2; rw [upd_at, if_pos (by omega), show tn + 1 + 1 - tn = 2 by omega]; exact bb_i v 2
    · rw [upd_off h2]
      by_cases h1 : j = tn + 1
      · subst h1; rw [upd_at, if_pos (by omega), show tn + 1 - tn = 1 by omega]; exact bb_i v 1
      · rw [upd_off h1]
        by_cases h0 : j = tn
        · subst h0; rw [upd_at, if_pos (by omega), show j - j = 0 by omega]; exact bb_i v 0
        · rw [upd_off h0, if_neg (by omega)]; exact h j hj
theorem TpE.feed {f : Nat → Int32} {tp : Nat → Nat} (h : TpE f tp) (tn : Nat) (a b c d e : Int32) : TpE (bpF (bpF (bpF (bpF (bpF f (tn + 0) a) (tn + 4) b) (tn + 8) c) (tn + 12) d) (tn + 16) e) (feedT tp tn a b c d e) := by
  unfold feedT
  rw [show tn + 4 + 4 + 4 + 4 = tn + 16 by omega, show tn + 4 + 4 + 4 = tn + 12 by omega, show tn + 4 + 4 = tn + 8 by omega]
  exact ((((h.put (tn + 0) a).put (tn + 4) b).put (tn + 8) c).put (tn + 12) d).put (tn + 16) e
/-! ===== the class beside the reference ===== -/
/-- the reference's numbers of a core -/
def CoR (c : xCo) (hl : xHl) (r : xRw) (sc : Nat × Nat × Int32) (A : Nat → Nat → Int32) (pm : Int32) : Prop := VisH c.1.1 hl ∧ RE c.1.1 c.1.2 r ∧ sc = (c.2.1.2, c.2.2.1.2.2, c.2.2.1.2.1) ∧ BkR A c.2.1.1 c.2.1.2 ∧ pm = nI c.2.2.2.2 ∧ ∀ i, i < c.2.2.2.2 → RE c.1.1 (c.2.2.2.1 i) (fun j => A 37 (35 * (c.2.2.2.2 - 1 - i) + j))
def RulesR (A : Nat → Nat → Int32) (rs : List (List Nat)) : Prop := ∀ w, w < rs.length → ∃ cs, RefR A w cs ∧ (∀ c ∈ cs, ClW c) ∧ rs[w]? = some (spC cs)
def ImR (A : Nat → Nat → Int32) (im : Nat → Option xCo) : Prop := ∀ k, k < 4 → (im k = none ∧ A 45 k = nI 0) ∨ ∃ ck hk rk sck Ak, im k = some ck ∧ A 45 k = nI 1 ∧ (∀ i j, hk i j < 1000000) ∧ ImK (A 44) k hk rk sck Ak ∧ CoR ck hk rk sck Ak (A 44 (900 * k + 50))
def RfD (tp : Nat → Nat) (tn : Nat) (rs : List (List Nat)) (c : xCo) (im : Nat → Option xCo) (hl : xHl) (r : xRw) (sc : Nat × Nat × Int32) (A : Nat → Nat → Int32) (F : Nat → Int32) : Prop := CoR c hl r sc A (F 49) ∧ RulesR A rs ∧ ImR A im ∧ TpE (A 27) tp ∧ NB A ∧ F 27 = nI tn ∧ F 31 = nI rs.length ∧ F 36 = nI 12
def RefAt (G : xHp) (y : Nat) (tp : Nat → Nat) (tn : Nat) (rs : List (List Nat)) (c : xCo) (im : Nat → Option xCo) : Prop := ∃ hl r sc A F wa sa, MW G G y hl r sc A F wa sa ∧ RfD tp tn rs c im hl r sc A F
def LI (G : xHp) (h x y : Nat) : Prop := ∃ lo tp tn rs c im, (x + 51 ≤ y ∧ y + 46 ≤ lo) ∧ ClsAt G h x lo tp tn rs c im ∧ RefAt G y tp tn rs c im ∧ CoreI c ∧ ∀ i ck, im i = some ck → CoreI ck
def Pr (K : xG) (x y d1 d2 mc ms : Nat) (M1 M2 : xM) (av : List Value) (h : Nat) (G : xHp) : Prop := xCall K M1 d1 mc ms (.ref x :: av) h G (fun v h' G' => ∃ a : Int32, v = some (.int a) ∧ (∃ fs, G' y = some (eO 12 fs)) ∧ xCall K M2 d2 0 0 (.ref y :: av) h' G' (fun w h2 G2 => w = some (.int a) ∧ LI G2 h2 x y))
def AcP (y h : Nat) (G' : xHp) (a : Int32) (tp : Nat → Nat) (tn : Nat) (rs : List (List Nat)) (c : xCo) (im : Nat → Option xCo) : xPost := fun w h2 G2 => w = some (.int a) ∧ h2 = h ∧ ∃ hl' r' sc' A' F' wa' sa', MW G' G2 y hl' r' sc' A' F' wa' sa' ∧ RfD tp tn rs c im hl' r' sc' A' F'
def FoOk (rs : List (List Nat)) (v : Int32) : Prop := v = -1 ∨ ∃ i, i < rs.length ∧ v = nI i
section CRL
variable {c : xCo} {hl : xHl} {r : xRw} {sc : Nat × Nat × Int32} {A A' : Nat → Nat → Int32} {p : Int32} {rs : List (List Nat)} {im : Nat → Option xCo}
theorem CoreI.one (h : CoreI c) : c.2.2.1.1 = true ↔ 0 < c.1.1 0 0 := h.1.2.2.2.2.2.1
theorem CoreI.c3 (h : CoreI c) : 1 ≤ c.1.1 0 0 ∨ c.1.1 0 3 = 0 := by
  rcases e : c.2.2.1.1 with _ | _
  · exact Or.inr (h.1.2.2.2.2.2.2.1 e).2.2.1
  · exact Or.inl (h.one.mp e)
theorem CoR.vg (hI : CoreI c) (hC : CoR c hl r sc A p) : VG c.1.1 hl := vg_of hC.1 hI.hO.2.1 hI.c3
theorem CoR.ho (hI : CoreI c) (hC : CoR c hl r sc A p) : HallOk hl := hok_cg hI.hO (hC.vg hI)
theorem CoR.rv (hI : CoreI c) (hC : CoR c hl r sc A p) : RV c.1.1 c.1.2 r := hC.2.1.vw hI.hO
theorem CoR.ro (hI : CoreI c) (hC : CoR c hl r sc A p) : RowOk hl r := rok_cg (hC.vg hI) (hC.rv hI) hI.1.2.1.1
theorem CoR.told (hI : CoreI c) (hC : CoR c hl r sc A p) : c.2.2.1.1 = true ↔ 0 < hl 0 0 := by
  rw [hI.one, hC.1.1 0 (by omega)]
theorem CoR.at' (hC : CoR c hl r sc A p) (h15 : A' 15 = A 15) (h16 : A' 16 = A 16) (h17 : A' 17 = A 17) (h37 : A' 37 = A 37) : CoR c hl r sc A' p := by
  obtain ⟨c1, c2, c3, c4, c5, c6⟩ := hC
  exact ⟨c1, c2, c3, c4.cong h15 h16 h17, c5, fun i hi => by rw [h37]; exact c6 i hi⟩
theorem RulesR.kp (h : RulesR A rs) (hk : ∀ k, 28 ≤ k → k ≤ 33 → A' k = A k) : RulesR A' rs := fun w hw => by
  obtain ⟨cs, a1, a2, a3⟩ := h w hw
  exact ⟨cs, a1.cong hk, a2, a3⟩
theorem RulesR.rv (h : RulesR A rs) {v : Int32} {s : Nat × Nat × Int32} (hs : s.2.2 = v) (hf : FoOk rs v) (h6 : rs.length ≤ 6) : RvR A s (rvI rs v) := by
  rcases hf with e | ⟨i, hi, e⟩
  · exact Or.inl ⟨hs.trans e, if_pos e⟩
  · obtain ⟨cs, a1, a2, a3⟩ := h i hi
    refine Or.inr ⟨i, cs, spC cs, hs.trans e, ?_, a1, fun wd c hc => clW_wf (a2 c hc) wd, fun wd => want_ev wd cs a2⟩
    unfold rvI
    rw [e, if_neg (nI_ne1 (by omega)), thN_nI (by omega)]; exact a3
theorem RulesR.rj (h : RulesR A rs) {a b : Nat} (h6 : rs.length ≤ 6) : ∀ j, j ≤ rs.length → RvR A (a, b, nI j + (-1)) (rvJ rs j) := fun j hj => by
  cases j with
  | zero => exact Or.inl ⟨(show nI 0 + (-1) = (-1 : Int32) by decide), rfl⟩
  | succ i =>
    obtain ⟨cs, a1, a2, a3⟩ := h i (by omega)
    refine Or.inr ⟨i, cs, spC cs, ?_, a3, a1, fun wd c hc => clW_wf (a2 c hc) wd, fun wd => want_ev wd cs a2⟩
    show nI (i + 1) + (-1) = nI i
    rcases late_u i 1 (by omega) with ⟨z, -⟩ | ⟨k2, e1, e2⟩
    · omega
    · rw [show k2 = 0 by omega] at e2
      exact e2
theorem LX.vis {hk hl' : xHl} (hV : VisH hk hl) (h : LX hl hl' (hl 0 4)) : VisH hk hl' := by
  obtain ⟨v1, v2, v3, v4⟩ := hV
  have e4 : hl 0 4 = hk 0 4 := v1 4 (by omega)
  refine ⟨fun j hj => (h.1 0 j (by omega)).trans (v1 j hj), fun s hs => ⟨(h.1 1 s (by omega)).trans (v2 s hs).1, (h.1 2 s (by omega)).trans (v2 s hs).2⟩, fun z j hj => (h.1 3 j (by omega)).trans (v3 z j hj), fun t ht => ?_⟩
  obtain ⟨a1, a2, a3, a4⟩ := v4 t ht
  exact ⟨(h.1 4 t (by omega)).trans a1, (h.1 5 t (by omega)).trans a2, (h.1 6 t (by omega)).trans a3, (h.1 7 t (by omega)).trans a4⟩
theorem ofs_hi : ∀ i, i < 20 → ofs i + mln (ord i) ≤ 826 := by decide
theorem ImR.kp (h : ImR A im) (h45 : A' 45 = A 45) (h44 : ∀ j, j < 3600 → A' 44 j = A 44 j) : ImR A' im := fun k hk => by
  rcases h k hk with ⟨a1, a2⟩ | ⟨ck, hk', rk, sck, Ak, a1, a2, a3, a4, a5⟩
  · exact Or.inl ⟨a1, by rw [h45]; exact a2⟩
  · refine Or.inr ⟨ck, hk', rk, sck, Ak, a1, by rw [h45]; exact a2, a3, fun i j hi hj => ?_, by rw [h44 _ (by omega)]; exact a5⟩
    have := ofs_hi i hi
    rw [h44 _ (by omega)]
    exact a4 i j hi hj
theorem NB.kp (h : NB A) (hk : ∀ k, 20 ≤ k → k ≤ 26 → A' k = A k) : NB A' := fun k j hkk => by
  rw [hk k (by omega) (by omega)]
  exact h k j hkk
theorem RfD.ask {tp : Nat → Nat} {tn : Nat} {hl' : xHl} {F F' : Nat → Int32} (h : RfD tp tn rs c im hl r sc A F) (hx : LX hl hl' (hl 0 4)) (ha : AS A A') (hf : FS F F') : RfD tp tn rs c im hl' r sc A' F' := by
  obtain ⟨⟨c1, c2, c3, c4, c5, c6⟩, h2, h3, h4, h5, h6, h7, h8⟩ := h
  obtain ⟨f1, f2, f3, f4⟩ := hf
  refine ⟨⟨hx.vis c1, c2, c3, c4.cong (ha.1 15 (by omega)) (ha.1 16 (by omega)) (ha.1 17 (by omega)), by rw [f4]; exact c5, fun i hi => ?_⟩, h2.kp (fun k k1 k2 => ha.1 k (by omega)), h3.kp (ha.1 45 (by omega)) ha.2, ?_, h5.kp (fun k k1 k2 => ha.1 k (by omega)), f1.trans h6, f2.trans h7, f3.trans h8⟩
  · rw [ha.1 37 (by omega)]; exact c6 i hi
  · rw [ha.1 27 (by omega)]; exact h4
end CRL
/-! ===== the heap of both ===== -/
theorem ClsAt.fr {G G' : xHp} {h x lo tn : Nat} {tp : Nat → Nat} {rs : List (List Nat)} {c : xCo} {im : Nat → Option xCo} (hC : ClsAt G h x lo tp tn rs c im) (h1 : ∀ a, a < x + 51 → G' a = G a) (h2 : ∀ a, lo ≤ a → G' a = G a) : ClsAt G' h x lo tp tn rs c im := by
  obtain ⟨ruf, ima, ru, ⟨m1, m2, m3, m4, m5, m6, m7, m8, m9⟩, hE⟩ := hC
  exact ⟨ruf, ima, ru, ⟨(h1 _ (by omega)).trans m1, m2.fr (h1 _ (by omega)), m3.fr (fun a p q => h1 a (by omega)), m4.fr (fun a p q => h1 a (by omega)), (h1 _ (by omega)).trans m5, m6.fr (fun a p q => h1 a (by omega)), m7.fr (fun a p q => h1 a (by omega)), m8.fr (fun a p q => h1 a (by omega)), (h1 _ (by omega)).trans m9⟩, hE.fr h2 hE.2.2.2.2.1⟩
theorem ClsAt.fo {G : xHp} {h x lo tn : Nat} {tp : Nat → Nat} {rs : List (List Nat)} {c : xCo} {im : Nat → Option xCo} (hC : ClsAt G h x lo tp tn rs c im) : FoOk rs c.2.2.1.2.1 ∧ rs.length ≤ 6 ∧ tn ≤ 400 ∧ ∀ j, tp j < 256 := by
  obtain ⟨ruf, ima, ru, ⟨m1, m2, -⟩, hE⟩ := hC
  refine ⟨?_, hE.2.2.1, m2.2.2, m2.2.1⟩
  rcases hE.2.2.2.2.1 with ⟨q1, -⟩ | ⟨i, q1, q2, -⟩
  · exact Or.inl q1
  · exact Or.inr ⟨i, q1, q2⟩
theorem MW.own {G0 G : xHp} {y : Nat} {hl : xHl} {r : xRw} {sc : Nat × Nat × Int32} {A : Nat → Nat → Int32} {F : Nat → Int32} {wa sa : Nat → Int64} (h : MW G0 G y hl r sc A F wa sa) : MW G G y hl r sc A F wa sa := ⟨h.1, h.2.1, fun _ _ => rfl, h.2.2.2⟩
theorem MW.move {G0 G G' : xHp} {y : Nat} {hl : xHl} {r : xRw} {sc : Nat × Nat × Int32} {A : Nat → Nat → Int32} {F : Nat → Int32} {wa sa : Nat → Int64} (h : MW G0 G y hl r sc A F wa sa) (hf : ∀ a, y ≤ a → a < y + 46 → G' a = G a) : MW G' G' y hl r sc A F wa sa := ⟨(hf _ (by omega) (by omega)).trans h.1, fun k h1 h2 => (hf _ (by omega) (by omega)).trans (h.2.1 k h1 h2), fun _ _ => rfl, h.2.2.2⟩
section PRL
variable {K : xG} {G : xHp} {h h1 x y lo lo' tn tn' d1 d2 mc ms : Nat} {M1 M2 : xM} {av : List Value} {tp tp' : Nat → Nat} {rs rs' : List (List Nat)} {c c' : xCo} {im im' : Nat → Option xCo} {a : Int32}
/-- behind both calls the two are beside one another again -/
theorem LI.mk {G' G2 : xHp} {hl : xHl} {r : xRw} {sc : Nat × Nat × Int32} {A : Nat → Nat → Int32} {F : Nat → Int32} {wa sa : Nat → Int64} (hxy : x + 51 ≤ y ∧ y + 46 ≤ lo) (hC : ClsAt G' h x lo tp tn rs c im) (hM : MW G' G2 y hl r sc A F wa sa) (hD : RfD tp tn rs c im hl r sc A F) (hI : CoreI c) (hJ : ∀ i ck, im i = some ck → CoreI ck) : LI G2 h x y :=
  ⟨lo, tp, tn, rs, c, im, hxy, hC.fr (fun q hq => hM.2.2.1 q (by omega)) (fun q hq => hM.2.2.1 q (by omega)), ⟨hl, r, sc, A, F, wa, sa, hM.own, hD⟩, hI, hJ⟩
theorem Pr_act (hxy : x + 51 ≤ y ∧ y + 46 ≤ lo) (hR : RefAt G y tp tn rs c im) (hI' : CoreI c') (hJ : ∀ i ck, im i = some ck → CoreI ck) (k1 : xCall K M1 d1 0 0 (.ref x :: av) h G (clQ G h x lo a tp' tn' rs c' im)) (k2 : ∀ hl r sc A F wa sa G', MW G' G' y hl r sc A F wa sa → RfD tp tn rs c im hl r sc A F → xCall K M2 d2 0 0 (.ref y :: av) h G' (AcP y h G' a tp' tn' rs c' im)) : Pr K x y d1 d2 0 0 M1 M2 av h G := by
  refine x_callpost (fun v h' G' hq => ?_) k1
  obtain ⟨G1, ⟨hC, hf⟩, e1, e2, e3⟩ := hq
  subst e1
  have e2 := e2.symm
  subst e2
  have e3 := e3.symm
  subst e3
  obtain ⟨hl, r, sc, A, F, wa, sa, hM, hD⟩ := hR
  have hM1 := hM.move (G' := G1) (fun q q1 q2 => hf q (by omega) (by omega))
  refine ⟨a, rfl, ⟨_, hM1.1⟩, x_callpost (fun w h2 G2 hq2 => ?_) (k2 hl r sc A F wa sa G1 hM1 hD)⟩
  obtain ⟨e1, e2, hl', r', sc', A', F', wa', sa', hM', hD'⟩ := hq2
  subst e2
  exact ⟨e1, LI.mk hxy hC hM' hD' hI' hJ⟩
theorem Pr_ask (hxy : x + 51 ≤ y ∧ y + 46 ≤ lo) (hR : RefAt G y tp tn rs c im) (hI : CoreI c) (hJ : ∀ i ck, im i = some ck → CoreI ck) (k1 : xCall K M1 d1 0 0 (.ref x :: av) h G (clQ G h x lo a tp tn rs c im)) (k2 : ∀ hl r sc A F wa sa G', MW G' G' y hl r sc A F wa sa → RfD tp tn rs c im hl r sc A F → xCall K M2 d2 0 0 (.ref y :: av) h G' (mdK G' h y (some (.int a)) hl r sc A F)) : Pr K x y d1 d2 0 0 M1 M2 av h G := by
  refine Pr_act hxy hR hI hJ k1 (fun hl r sc A F wa sa G' hM hD => x_callpost (fun w h2 G2 hq => ?_) (k2 hl r sc A F wa sa G' hM hD))
  obtain ⟨⟨⟨hl', A', F'⟩, ⟨wa', sa'⟩, G3⟩, ⟨q1, q2, q3, q4⟩, e1, e2, e3⟩ := hq
  subst e1
  have e2 := e2.symm
  subst e2
  have e3 := e3.symm
  subst e3
  exact ⟨rfl, rfl, hl', r, sc, A', F', wa', sa', q1, hD.ask q2 q3 q4⟩
/-- an answer that changed nothing -/
theorem mdK_r {K : xG} {M : xM} {d cb sb h y : Nat} {av : List Value} {G : xHp} {v : Option Value} {hl : xHl} {r : xRw} {sc : Nat × Nat × Int32} {A : Nat → Nat → Int32} {F : Nat → Int32} {wa sa : Nat → Int64} (hM : MW G G y hl r sc A F wa sa) (k : xCall K M d cb sb av h G (xRet v h G)) : xCall K M d cb sb av h G (mdK G h y v hl r sc A F) := x_callpost (fun w h2 G2 hq => by
  obtain ⟨e1, e2, e3⟩ := hq
  subst e1
  have e2 := e2.symm
  subst e2
  have e3 := e3.symm
  subst e3
  exact ⟨((hl, A, F), (wa, sa), G), ⟨hM, LX.rf hM.hB, AS.rf, FS.rf⟩, rfl, rfl, rfl⟩) k
theorem mdK_x {K : xG} {M : xM} {d cb sb h y : Nat} {av : List Value} {G : xHp} {v : Option Value} {hl : xHl} {r : xRw} {sc : Nat × Nat × Int32} {A A' : Nat → Nat → Int32} {F F' : Nat → Int32} (hb : ∀ i j, hl i j < 1000000) (ha : AS A A') (hf : FS F F') (k : xCall K M d cb sb av h G (mdX G h y v hl r sc A' F')) : xCall K M d cb sb av h G (mdK G h y v hl r sc A F) := x_callpost (fun w h2 G2 hq => by
  obtain ⟨⟨⟨wa', sa'⟩, G3⟩, q, e1, e2, e3⟩ := hq
  subst e1
  have e2 := e2.symm
  subst e2
  have e3 := e3.symm
  subst e3
  exact ⟨((hl, A', F'), (wa', sa'), G3), ⟨q, LX.rf hb, ha, hf⟩, rfl, rfl, rfl⟩) k
theorem FS.u {F F' : Nat → Int32} {k : Nat} {v : Int32} (h : FS F F') (hk : k ≠ 27 ∧ k ≠ 31 ∧ k ≠ 36 ∧ k ≠ 49) : FS F (upd F' k v) := by
  obtain ⟨h1, h2, h3, h4⟩ := h
  exact ⟨(upd_off (by omega)).trans h1, (upd_off (by omega)).trans h2, (upd_off (by omega)).trans h3, (upd_off (by omega)).trans h4⟩
theorem FS.cx {F F' : Nat → Int32} {b p : Nat} (h : FS F F') : FS F (cF F' b p) := (h.u (by omega)).u (by omega)
theorem FS.t {F F' : Nat → Int32} {p : Int32 × Int32} (h : FS F F') : FS F (tF F' p) := (h.cx.u (by omega)).u (by omega)
end PRL
