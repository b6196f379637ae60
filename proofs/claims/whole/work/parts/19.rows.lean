theorem vp_cell_cong {c : ClassId} {n : Nat} {f g : Nat → Int32} (h : ∀ j, j < n → f j = g j) : vp_cell c (n, .inl f) = vp_cell c (n, .inl g) := by
  rw [vp_cell_i, vp_cell_i]
  unfold arrV
  congr 1
  apply Array.ext
  · simp
  · intro i h1 h2
    simp at h1 ⊢
    exact h i h1
theorem vp_cell_congL {c : ClassId} {n : Nat} {f g : Nat → Int64} (h : ∀ j, j < n → f j = g j) : vp_cell c (n, .inr (.inl f)) = vp_cell c (n, .inr (.inl g)) := by
  rw [vp_cell_l, vp_cell_l]
  unfold arrV
  congr 1
  apply Array.ext
  · simp
  · intro i h1 h2
    simp at h1 ⊢
    exact h i h1
section XR
variable {K : xG} {M N : xM} {d d' cb sb mc ms h : Nat} {G : xHp} {pc : Nat} {ls ls' : List (Nat × Value)} {st : List Value} {Q Q' : xPost}
theorem xH_acong {a t n : Nat} {f g : Nat → Int32} {H : Heap} (hH : xH K h (xup G a (eI t n f)) H) (hfg : ∀ j, j < n → f j = g j) : xH K h (xup G a (eI t n g)) H := by
  refine ⟨hH.1, hH.2.1, fun b e hb => ?_⟩
  by_cases hba : b = a
  · subst hba
    rw [xup_eq] at hb
    cases hb
    obtain ⟨h1, h2⟩ := hH.2.2 b _ xup_eq
    refine ⟨h1, ?_⟩
    have h3 : H[b]? = some (vp_cell (K.2.2.2.1 t) (n, .inl f)) := h2
    show H[b]? = some (vp_cell (K.2.2.2.1 t) (n, .inl g))
    rw [h3, vp_cell_cong hfg]
  · rw [xup_ne hba] at hb
    exact hH.2.2 b e (by rw [xup_ne hba]; exact hb)
theorem xH_acongL {a n : Nat} {f g : Nat → Int64} {H : Heap} (hH : xH K h (xup G a (eJ n f)) H) (hfg : ∀ j, j < n → f j = g j) : xH K h (xup G a (eJ n g)) H := by
  refine ⟨hH.1, hH.2.1, fun b e hb => ?_⟩
  by_cases hba : b = a
  · subst hba
    rw [xup_eq] at hb
    cases hb
    obtain ⟨h1, h2⟩ := hH.2.2 b _ xup_eq
    refine ⟨h1, ?_⟩
    have h3 : H[b]? = some (vp_cell (K.2.2.2.1 3) (n, .inr (.inl f))) := h2
    show H[b]? = some (vp_cell (K.2.2.2.1 3) (n, .inr (.inl g)))
    rw [h3, vp_cell_congL hfg]
  · rw [xup_ne hba] at hb
    exact hH.2.2 b e (by rw [xup_ne hba]; exact hb)
/-- an array's places beyond its length don't matter -/
theorem x_acong {a t n : Nat} {f g : Nat → Int32} (hfg : ∀ j, j < n → f j = g j) (k : xV K M d cb sb h (xup G a (eI t n g)) pc ls st Q) : xV K M d cb sb h (xup G a (eI t n f)) pc ls st Q := by
  intro p l e s m args below meth c H locs cells slots lc MC MS C hH hS hL h1 h2
  exact k p l e s m args below meth c H locs cells slots lc MC MS C (xH_acong hH hfg) hS hL h1 h2
theorem x_acongL {a n : Nat} {f g : Nat → Int64} (hfg : ∀ j, j < n → f j = g j) (k : xV K M d cb sb h (xup G a (eJ n g)) pc ls st Q) : xV K M d cb sb h (xup G a (eJ n f)) pc ls st Q := by
  intro p l e s m args below meth c H locs cells slots lc MC MS C hH hS hL h1 h2
  exact k p l e s m args below meth c H locs cells slots lc MC MS C (xH_acongL hH hfg) hS hL h1 h2
/-- a whole row copied into another of its length -/
theorem x_copyF {idx a0 a n : Nat} {f g : Nat → Int32} (hd : decode M.2.1 pc = .ok (.invokestatic idx, 3)) (hlink : Cond.methodLink M.1.cls idx arraycopyName ∈ xW) (hc0 : G a0 = some (eI 0 n f)) (hc1 : G a = some (eI 0 n g)) (hn : n < 2 ^ 31) (hnat : Cond.native arraycopyName ∈ xW) (hstat : Cond.static arraycopyName ∈ xW) (hini : Cond.initialized "java/lang/System" ∈ xW) (hdd : 1 ≤ d) (hw : (st.map fun v => v.category).sum ≤ 8)
    (k : xV K M d cb sb h (xup G a (eI 0 n f)) (pc + 3) ls st Q) : xV K M d cb sb h G pc ls (.int (nI n) :: .int (nI 0) :: .ref a :: .int (nI 0) :: .ref a0 :: st) Q := by
  have h0 : (nI 0).toNatClampNeg = 0 := nI_clamp (by decide)
  have h9 : (nI n).toNatClampNeg = n := nI_clamp hn
  refine x_copy hd hlink hnat hstat hini hc0 hc1 (nI_pos (by decide)) (nI_pos (by decide)) (nI_pos hn) (by rw [h0, h9]; omega) (by rw [h0, h9]; omega) hdd hw ?_
  refine x_acong (fun j hj => ?_) k
  rw [h0, h9, pk_cpy_in (by omega) (by omega)]
  congr 1
  omega
/-- n places copied, by naturals -/
theorem x_copyN {idx a0 a n0 n1 sp dp n : Nat} {f g : Nat → Int32} (hd : decode M.2.1 pc = .ok (.invokestatic idx, 3)) (hlink : Cond.methodLink M.1.cls idx arraycopyName ∈ xW) (hc0 : G a0 = some (eI 0 n0 f)) (hc1 : G a = some (eI 0 n1 g)) (g4 : sp + n ≤ n0) (g5 : dp + n ≤ n1) (hn0 : n0 < 2 ^ 31) (hn1 : n1 < 2 ^ 31) (hnat : Cond.native arraycopyName ∈ xW) (hstat : Cond.static arraycopyName ∈ xW) (hini : Cond.initialized "java/lang/System" ∈ xW) (hdd : 1 ≤ d) (hw : (st.map fun v => v.category).sum ≤ 8)
    (k : xV K M d cb sb h (xup G a (eI 0 n1 (va_cpy f g sp dp n))) (pc + 3) ls st Q) : xV K M d cb sb h G pc ls (.int (nI n) :: .int (nI dp) :: .ref a :: .int (nI sp) :: .ref a0 :: st) Q := by
  have h0 : (nI sp).toNatClampNeg = sp := nI_clamp (by omega)
  have h1 : (nI dp).toNatClampNeg = dp := nI_clamp (by omega)
  have h9 : (nI n).toNatClampNeg = n := nI_clamp (by omega)
  refine x_copy hd hlink hnat hstat hini hc0 hc1 (nI_pos (by omega)) (nI_pos (by omega)) (nI_pos (by omega)) (by rw [h0, h9]; omega) (by rw [h1, h9]; omega) hdd hw ?_
  rw [h0, h1, h9]
  exact k
end XR
def fillF (f : Nat → Int32) (v : Int32) (i : Nat) : Nat → Int32 := fun j => if j < i then v else f j
theorem fillF_0 (f : Nat → Int32) (v : Int32) : fillF f v 0 = f := by funext j; simp [fillF]
theorem fillF_s (f : Nat → Int32) (v : Int32) (i : Nat) : upd (fillF f v i) i v = fillF f v (i + 1) := by
  funext j
  by_cases h : j = i
  · simp [upd, fillF, h]
  · by_cases h2 : j < i
    · simp [upd, fillF, h, h2, Nat.lt_succ_of_lt h2]
    · have : ¬ j < i + 1 := by omega
      simp [upd, fillF, h, h2, this]
def mxI (a b : Int32) : Int32 := if a < b then b else a
def mnI (a b : Int32) : Int32 := if b < a then b else a
section XS
variable {K : xG} {M N : xM} {d d' cb sb mc ms h : Nat} {G : xHp} {pc : Nat} {ls ls' : List (Nat × Value)} {st : List Value} {Q Q' : xPost}
theorem x_mmax {idx : Nat} {a b : Int32} (hd : decode M.2.1 pc = .ok (.invokestatic idx, 3)) (hlink : Cond.methodLink M.1.cls idx Lib.Math.max.name ∈ xW) (hst : Cond.static Lib.Math.max.name ∈ xW) (hini : Cond.initialized "java/lang/Math" ∈ xW) (hcd : Cond.code Lib.Math.max.name Lib.Math.max.code 2 (some .int) ∈ xW) (hdd : 1 ≤ d) (hw : (st.map fun v => v.category).sum ≤ 8) (k : xV K M d cb sb h G (pc + 3) ls (.int (mxI a b) :: st) Q) : xV K M d cb sb h G pc ls (.int b :: .int a :: st) Q := by
  intro p l e s m args below meth c H locs cells slots lc MC MS C hH hS hL h1 h2
  obtain ⟨k1, k2, k3, k4, k5, k6, k7, k8, k9, k10, k11, k12⟩ := id C
  exact va_mmax k1 k2 (by rw [k4, hL.1]) k5 (k6 _ hlink) (k6 _ hst) (k6 _ hini) (k6 _ hcd) hdd (by show _ + 13 ≤ 64 * d; omega) (by show cells ≤ MC; omega) (by show slots ≤ MS; omega) hd (k p l e s m args below meth c H locs cells slots lc MC MS C hH hS hL h1 h2)
theorem x_mmin {idx : Nat} {a b : Int32} (hd : decode M.2.1 pc = .ok (.invokestatic idx, 3)) (hlink : Cond.methodLink M.1.cls idx Lib.Math.min.name ∈ xW) (hst : Cond.static Lib.Math.min.name ∈ xW) (hini : Cond.initialized "java/lang/Math" ∈ xW) (hcd : Cond.code Lib.Math.min.name Lib.Math.min.code 2 (some .int) ∈ xW) (hdd : 1 ≤ d) (hw : (st.map fun v => v.category).sum ≤ 8) (k : xV K M d cb sb h G (pc + 3) ls (.int (mnI a b) :: st) Q) : xV K M d cb sb h G pc ls (.int b :: .int a :: st) Q := by
  intro p l e s m args below meth c H locs cells slots lc MC MS C hH hS hL h1 h2
  obtain ⟨k1, k2, k3, k4, k5, k6, k7, k8, k9, k10, k11, k12⟩ := id C
  exact va_mmin k1 k2 (by rw [k4, hL.1]) k5 (k6 _ hlink) (k6 _ hst) (k6 _ hini) (k6 _ hcd) hdd (by show _ + 13 ≤ 64 * d; omega) (by show cells ≤ MC; omega) (by show slots ≤ MS; omega) hd (k p l e s m args below meth c H locs cells slots lc MC MS C hH hS hL h1 h2)
end XS
