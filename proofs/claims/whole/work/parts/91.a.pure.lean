/-! ===== the reference: a hall read ===== -/
def NH (A : Nat → Nat → Int32) (hk : xHl) (d : Nat) : Prop := (∀ i, d ≤ i → i < 5 → A 19 i = nI (hk 0 i)) ∧ (∀ s, s < hk 0 2 → A 20 s = nI (hk 1 s) ∧ A 21 s = nI (hk 2 s)) ∧ (∀ j, j < 16 → A 22 j = skJ (hk 3 j)) ∧ ∀ t, t < hk 0 4 → A 23 t = nI (hk 4 t) ∧ A 24 t = nI (hk 5 t) ∧ A 25 t = nI (hk 6 t) ∧ A 26 t = nI (hk 7 t)
def NB (A : Nat → Nat → Int32) : Prop := ∀ k j, (k = 20 ∨ k = 21 ∨ (23 ≤ k ∧ k ≤ 26)) → ∃ v, v < 1000000 ∧ A k j = nI v
def KpN (A0 A : Nat → Nat → Int32) : Prop := ∀ k, ¬ (19 ≤ k ∧ k ≤ 26) → A k = A0 k
theorem KpN.rf {A0 : Nat → Nat → Int32} : KpN A0 A0 := fun _ _ => rfl
theorem KpN.st {A0 A : Nat → Nat → Int32} {k : Nat} {f : Nat → Int32} (h : KpN A0 A) (hk : 19 ≤ k ∧ k ≤ 26) : KpN A0 (setA A k f) := fun i hi => by
  rw [setA_ne (fun e => hi (by omega))]; exact h i hi
theorem NB.st {A : Nat → Nat → Int32} {k j v : Nat} (h : NB A) (hv : v < 1000000) : NB (setA A k (upd (A k) j (nI v))) := by
  intro i q hi
  by_cases e : i = k
  · subst e
    rw [setA_at]
    by_cases e2 : q = j
    · subst e2; exact ⟨v, hv, by rw [upd_at]⟩
    · rw [upd_off e2]; exact h i q hi
  · rw [setA_ne e]; exact h i q hi
theorem NB.s9 {A : Nat → Nat → Int32} {k : Nat} {f : Nat → Int32} (h : NB A) (hk : k = 19 ∨ k = 22) : NB (setA A k f) := by
  intro i q hi
  rw [setA_ne (by omega)]; exact h i q hi
theorem tn_1 {tp : Nat → Nat} {n f p : Nat} {lo hi : Int32} (h : f ≠ 0) : tnP tp n f p lo hi = (f, p) := if_pos h
theorem tn_2 {tp : Nat → Nat} {n p : Nat} {lo hi : Int32} (h : kdA tp n (skP tp n p) ≠ 2) : tnP tp n 0 p lo hi = (flP tp n 0 p 0, p) := by
  unfold tnP; rw [if_neg (fun z => z rfl), if_pos h]
theorem tn_3 {tp : Nat → Nat} {n p : Nat} {lo hi : Int32} (h : kdA tp n (skP tp n p) = 2) (h2 : nmA tp n (skP tp n p) < lo ∨ hi < nmA tp n (skP tp n p)) : tnP tp n 0 p lo hi = (flP tp n 0 p 1, p) := by
  unfold tnP; rw [if_neg (fun z => z rfl), if_neg (fun z => z h), if_pos h2]
theorem tn_4 {tp : Nat → Nat} {n p : Nat} {lo hi : Int32} (h : kdA tp n (skP tp n p) = 2) (h2 : ¬ (nmA tp n (skP tp n p) < lo ∨ hi < nmA tp n (skP tp n p))) : tnP tp n 0 p lo hi = (0, atA tp n (skP tp n p)) := by
  unfold tnP; rw [if_neg (fun z => z rfl), if_neg (fun z => z h), if_neg h2]
theorem i64_in {v lo hi : Int32} : decide (lo.toInt64 ≤ v.toInt64 ∧ v.toInt64 ≤ hi.toInt64) = decide (¬ (v < lo ∨ hi < v)) := by
  apply decide_eq_decide.mpr
  rw [i64_le, i64_le, Int32.lt_iff_toInt_lt, Int32.lt_iff_toInt_lt]
  omega
theorem flt_z {c b : Nat} : flt 0 c b = 1 + 8 * b + c := if_pos rfl
theorem flP_z {tp : Nat → Nat} {n p c : Nat} : flP tp n 0 p c = 1 + 8 * skP tp n p + c := if_pos rfl
theorem dgF_5 {tp : Nat → Nat} {n p : Nat} (h : 5 < runF (isDg tp) (n - p) p - p) : dgF tp n p 0 = 1 + 8 * p + 1 := by unfold dgF; rw [if_pos h]; exact flt_z
theorem dgF_0 {tp : Nat → Nat} {n p : Nat} (h : ¬ 5 < runF (isDg tp) (n - p) p - p) : dgF tp n p 0 = 0 := by unfold dgF; rw [if_neg h]
theorem dig_run {tp : Nat → Nat} {n p : Nat} : ∀ j, j < runF (isDg tp) (n - p) p - p → isDg tp (p + j) = true := fun j hj => runF_in (p := p) (k := n - p) (by omega) (by omega)
/-- a number read by both -/
theorem am_y {tp : Nat → Nat} {n p q a : Nat} {hi : Int32} (hk : kdA tp n p = 2) (hq : p = skP tp n q) (ha : a < 2 ^ 31) : (5 < runF (isDg tp) (n - p) p - p → (tnP tp n 0 q (nI a) hi).1 = dgF tp n p 0 ∧ dgF tp n p 0 ≠ 0) ∧ (¬ 5 < runF (isDg tp) (n - p) p - p → nmA tp n (skP tp n q) = nI (dvN tp p (runF (isDg tp) (n - p) p - p)) ∧ dvN tp p (runF (isDg tp) (n - p) p - p) = nmN tp n q ∧ dvN tp p (runF (isDg tp) (n - p) p - p) < 100000 ∧ atA tp n (skP tp n q) = runF (isDg tp) (n - p) p) := by
  obtain ⟨g1, g2, g3⟩ := at_dg hk
  have hnm := nm_d hk
  rw [← hq]
  refine ⟨fun h5 => ?_, fun h5 => ?_⟩
  · have e1 : nmA tp n p = -1 := by rw [hnm]; exact nmF_big tp _ h5
    have e2 : tnP tp n 0 q (nI a) hi = (flP tp n 0 q 1, q) := tn_3 (by rw [← hq]; exact hk) (Or.inl (by rw [← hq, e1]; exact Int32.lt_of_lt_of_le (by decide) (nI_pos' ha)))
    rw [e2, dgF_5 h5]
    refine ⟨?_, by omega⟩
    show flP tp n 0 q 1 = _
    rw [flP_z, ← hq]
  · have h7 := dvN_nm tp p _ (show runF (isDg tp) (n - p) p - p ≤ 5 by omega) dig_run
    have h8 := (dvN_lt tp p (runF (isDg tp) (n - p) p - p) dig_run).1
    have e1 : nmA tp n p = nI (dvN tp p (runF (isDg tp) (n - p) p - p)) := by rw [hnm, h7]
    refine ⟨e1, ?_, h8, at_d g1 g2 g3⟩
    unfold nmN
    rw [← hq, e1, thN_nI (by omega)]
theorem dvN_lt' {tp : Nat → Nat} {n p : Nat} : dvN tp p (runF (isDg tp) (n - p) p - p) < 100000 := (dvN_lt tp p _ dig_run).1
theorem sk_p2 {tp : Nat → Nat} {n p : Nat} (h : p ≤ n + 2) : skP tp n p ≤ n + 2 ∧ (p ≤ n → skP tp n p ≤ n) := by
  have := runF_le (blB tp) (n - p) p
  unfold skP
  exact ⟨by omega, fun _ => by omega⟩
/-- which word stands: the reference's numbers -/
def hwI (k : Nat) : Nat := if k = 0 then 22 else if k = 1 then 9 else if k = 2 then 7 else if k = 3 then 8 else 23
def w5_i (k : Nat) : Nat := if k = 0 then 22 else if k = 1 then 9 else if k = 2 then 7 else if k = 3 then 23 else 8
theorem w5_ok (k : Nat) : w5_i k < 26 ∧ w5_i k ≠ 0 ∧ w5_i k ≠ 6 := by
  unfold w5_i
  split
  · decide
  · split
    · decide
    · split
      · decide
      · split <;> decide
theorem wl0_sfx : wl 0 = sfx w5_i 4 0 := by decide +kernel
theorem wiO_h {tp : Nat → Nat} {n p q : Nat} (hq : p = skP tp n q) : wiO tp n 0 q (wl 0) = if stB tp n p 22 = true then some 0 else if stB tp n p 9 = true then some 1 else if stB tp n p 7 = true then some 2 else if stB tp n p 23 = true then some 3 else if stB tp n p 8 = true then some 4 else none := by
  unfold wiO
  rw [← hq]
  by_cases e : kdA tp n p = 1
  · rw [if_pos ⟨rfl, e⟩, (at_run e).2.2, wl0_sfx, wiF_sfx w5_ok]
    rfl
  · rw [if_neg (fun z => e z.2), stB_no (by decide) e, stB_no (by decide) e, stB_no (by decide) e, stB_no (by decide) e, stB_no (by decide) e]
    rfl
theorem st_8 {tp : Nat → Nat} {n p : Nat} (h : stB tp n p 8 = true) : stB tp n p 23 = false := by
  rcases h2 : stB tp n p 23 with _ | _
  · rfl
  · have a1 := ((stB_iff.mp h).1 0 (by decide +kernel)).2
    have a2 := ((stB_iff.mp h2).1 0 (by decide +kernel)).2
    rw [a1] at a2
    exact absurd a2 (by decide +kernel)
theorem xl_22 : (xs_byt 22).length = 4 := by decide +kernel
theorem xl_9 : (xs_byt 9).length = 4 := by decide +kernel
theorem xl_7 : (xs_byt 7).length = 6 := by decide +kernel
theorem xl_8 : (xs_byt 8).length = 5 := by decide +kernel
theorem xl_23 : (xs_byt 23).length = 5 := by decide +kernel
section NHL
variable {A : Nat → Nat → Int32} {hk : xHl}
theorem set2_h (hk : xHl) (a b v i j : Nat) : set2 hk a b v i j = if i = a ∧ j = b then v else hk i j := rfl
theorem nh_hall {u v d : Nat} (h : NH A hk d) (hd : d ≤ 2) : NH (setA (setA A 19 (upd (A 19) 0 (nI u))) 19 (upd (upd (A 19) 0 (nI u)) 1 (nI v))) (set2 (set2 hk 0 0 u) 0 1 v) 0 := by
  obtain ⟨h1, h2, h3, h4⟩ := h
  rw [setA_up]
  have e02 : set2 (set2 hk 0 0 u) 0 1 v 0 2 = hk 0 2 := by simp [set2]
  have e04 : set2 (set2 hk 0 0 u) 0 1 v 0 4 = hk 0 4 := by simp [set2]
  have ek : ∀ i j, i ≠ 0 → set2 (set2 hk 0 0 u) 0 1 v i j = hk i j := fun i j hi => by simp [set2, hi]
  refine ⟨fun i hd0 hi => ?_, fun s hs => ?_, fun j hj => ?_, fun t ht => ?_⟩
  · rw [setA_at]
    by_cases e1 : i = 1
    · subst e1; rw [upd_at]; simp [set2]
    · rw [upd_off e1]
      by_cases e0 : i = 0
      · subst e0; rw [upd_at]; simp [set2]
      · rw [upd_off e0, h1 i (by omega) hi]; simp [set2, e0, e1]
  · rw [e02] at hs
    rw [setA_ne (by decide), setA_ne (by decide), ek 1 s (by decide), ek 2 s (by decide)]; exact h2 s hs
  · rw [setA_ne (by decide), ek 3 j (by decide)]; exact h3 j hj
  · rw [e04] at ht
    rw [setA_ne (by decide), setA_ne (by decide), setA_ne (by decide), setA_ne (by decide), ek 4 t (by decide), ek 5 t (by decide), ek 6 t (by decide), ek 7 t (by decide)]; exact h4 t ht
theorem nh_sort {u v : Nat} (h : NH A hk 0) (hc : hk 0 2 < 4) : NH (setA (setA (setA A 20 (upd (A 20) (hk 0 2) (nI u))) 21 (upd (A 21) (hk 0 2) (nI v))) 19 (upd (A 19) 2 (nI (hk 0 2 + 1)))) (set2 (set2 (set2 hk 1 (hk 0 2) u) 2 (hk 0 2) v) 0 2 (hk 0 2 + 1)) 0 := by
  obtain ⟨h1, h2, h3, h4⟩ := h
  refine ⟨fun i hd0 hi => ?_, fun s hs => ?_, fun j hj => ?_, fun t ht => ?_⟩
  · rw [setA_at]
    by_cases e1 : i = 2
    · subst e1; rw [upd_at]; simp [set2]
    · rw [upd_off e1, h1 i hd0 hi]; simp [set2, e1]
  · have e02 : set2 (set2 (set2 hk 1 (hk 0 2) u) 2 (hk 0 2) v) 0 2 (hk 0 2 + 1) 0 2 = hk 0 2 + 1 := by simp [set2]
    rw [e02] at hs
    rw [setA_ne (by decide), setA_ne (by decide), setA_at, setA_ne (by decide), setA_at]
    by_cases e : s = hk 0 2
    · subst e; rw [upd_at, upd_at]; simp [set2]
    · rw [upd_off e, upd_off e]
      have := h2 s (by omega)
      simp [set2, e]; exact this
  · rw [setA_ne (by decide), setA_ne (by decide), setA_ne (by decide), h3 j hj]; simp [set2]
  · have e04 : set2 (set2 (set2 hk 1 (hk 0 2) u) 2 (hk 0 2) v) 0 2 (hk 0 2 + 1) 0 4 = hk 0 4 := by simp [set2]
    rw [e04] at ht
    have := h4 t ht
    rw [setA_ne (by decide), setA_ne (by decide), setA_ne (by decide), setA_ne (by decide), setA_ne (by decide), setA_ne (by decide), setA_ne (by decide), setA_ne (by decide), setA_ne (by decide), setA_ne (by decide), setA_ne (by decide), setA_ne (by decide)]
    simp [set2]; exact this
theorem nh_mender (h : NH A hk 0) : NH (setA A 19 (upd (A 19) 3 (nI (hk 0 3 + 1)))) (set2 hk 0 3 (hk 0 3 + 1)) 0 := by
  obtain ⟨h1, h2, h3, h4⟩ := h
  refine ⟨fun i hd0 hi => ?_, fun s hs => ?_, fun j hj => ?_, fun t ht => ?_⟩
  · rw [setA_at]
    by_cases e1 : i = 3
    · subst e1; rw [upd_at]; simp [set2]
    · rw [upd_off e1, h1 i hd0 hi]; simp [set2, e1]
  · have hs2 : s < hk 0 2 := by simpa [set2] using hs
    rw [setA_ne (by decide), setA_ne (by decide)]
    have := h2 s hs2
    simp [set2]; exact this
  · rw [setA_ne (by decide), h3 j hj]; simp [set2]
  · have ht2 : t < hk 0 4 := by simpa [set2] using ht
    have := h4 t ht2
    rw [setA_ne (by decide), setA_ne (by decide), setA_ne (by decide), setA_ne (by decide)]
    simp [set2]; exact this
theorem nh_skill {q t m : Nat} (h : NH A hk 0) (hm : 0 < m) (hm9 : m ≠ 999999) : NH (setA A 22 (upd (A 22) (4 * q + t) (nI m))) (set2 hk 3 (q * 4 + t) m) 0 := by
  obtain ⟨h1, h2, h3, h4⟩ := h
  refine ⟨fun i hd0 hi => ?_, fun s hs => ?_, fun j hj => ?_, fun t' ht => ?_⟩
  · rw [setA_ne (by decide), h1 i hd0 hi]; simp [set2]
  · have hs2 : s < hk 0 2 := by simpa [set2] using hs
    rw [setA_ne (by decide), setA_ne (by decide)]
    have := h2 s hs2
    simp [set2]; exact this
  · rw [setA_at]
    by_cases e : j = 4 * q + t
    · rw [e, upd_at, show 4 * q + t = q * 4 + t by omega]
      simp [set2, skJ_pos hm hm9]
    · rw [upd_off e, h3 j hj]
      have e2 : ¬ j = q * 4 + t := by omega
      simp [set2, e2]
  · have ht2 : t' < hk 0 4 := by simpa [set2] using ht
    have := h4 t' ht2
    rw [setA_ne (by decide), setA_ne (by decide), setA_ne (by decide), setA_ne (by decide)]
    simp [set2]; exact this
theorem nh_thing {a b c d : Nat} (h : NH A hk 0) : NH (setA (setA (setA (setA (setA A 23 (upd (A 23) (hk 0 4) (nI a))) 24 (upd (A 24) (hk 0 4) (nI b))) 25 (upd (A 25) (hk 0 4) (nI c))) 26 (upd (A 26) (hk 0 4) (nI d))) 19 (upd (A 19) 4 (nI (hk 0 4 + 1)))) (set2 (set2 (set2 (set2 (set2 hk 4 (hk 0 4) a) 5 (hk 0 4) b) 6 (hk 0 4) c) 7 (hk 0 4) d) 0 4 (hk 0 4 + 1)) 0 := by
  obtain ⟨h1, h2, h3, h4⟩ := h
  refine ⟨fun i hd0 hi => ?_, fun s hs => ?_, fun j hj => ?_, fun t ht => ?_⟩
  · rw [setA_at]
    by_cases e1 : i = 4
    · subst e1; rw [upd_at]; simp [set2]
    · rw [upd_off e1, h1 i hd0 hi]; simp [set2, e1]
  · have hs2 : s < hk 0 2 := by simpa [set2] using hs
    have := h2 s hs2
    simp [set2, setA]; exact this
  · have := h3 j hj
    simp [set2, setA]; exact this
  · have ht2 : t < hk 0 4 + 1 := by simpa [set2] using ht
    by_cases e : t = hk 0 4
    · subst e; simp [set2, setA, upd]
    · have := h4 t (by omega)
      simp [set2, setA, upd, e]; exact this
end NHL
