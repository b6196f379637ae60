/-! ===== sums: the class's loop and the reference's two ===== -/
theorem smL_f' {tp : Nat → Nat} {n : Nat} {s : xPS} (h : ¬ s.1 = 0) : ∀ j, smL tp n j s = s
  | 0 => rfl
  | j + 1 => smL_f h
theorem stp_end {tp : Nat → Nat} {n : Nat} {s : xPS} (h : n ≤ s.2.1) : stpP tp n s = none := by
  unfold stpP
  rw [if_neg (fun q => by
    have h1 : n ≤ skP tp n s.2.1 := by rw [skP_o h]; exact h
    have := q.2
    rw [kd_end h1] at this
    omega)]
theorem putO_f {s : xPS} {o : Option Nat} : (putO s o).1 = s.1 ∧ (putO s o).2.1 = s.2.1 ∧ (putO s o).2.2.1 = s.2.2.1 := by
  cases o with
  | none => exact ⟨rfl, rfl, rfl⟩
  | some k => exact putP_f
theorem stp_putO {tp : Nat → Nat} {n : Nat} {s : xPS} {o : Option Nat} : stpP tp n (putO s o) = stpP tp n s := by
  obtain ⟨h1, h2, h3⟩ := putO_f (s := s) (o := o)
  unfold stpP; rw [h1, h2]
theorem trmL_j {tp : Nat → Nat} {n : Nat} : ∀ (j j' : Nat) (s : xPS), (s.1 = 0 → n - s.2.1 ≤ j) → (s.1 = 0 → n - s.2.1 ≤ j') → (s.1 = 0 → s.2.1 ≤ n) → trmL tp n j s = trmL tp n j' s
  | 0, j', s, h1, h2, h3 => by
    by_cases e : s.1 = 0
    · have h4 := h1 e
      have h5 := stp_end (tp := tp) (n := n) (s := s) (by omega)
      cases j' with
      | zero => rfl
      | succ j' => simp only [trmL, h5]
    · rw [trmL_f' e, trmL_f' e]
  | j + 1, 0, s, h1, h2, h3 => by
    by_cases e : s.1 = 0
    · have h4 := h2 e
      have h5 := stp_end (tp := tp) (n := n) (s := s) (by omega)
      simp only [trmL, h5]
    · rw [trmL_f' e, trmL_f' e]
  | j + 1, j' + 1, s, h1, h2, h3 => by
    rcases hs : stpP tp n s with _ | c
    · simp only [trmL, hs]
    · obtain ⟨e0, e1, e2, e3⟩ := stp_lt hs
      simp only [trmL, hs]
      by_cases e4 : 4 ≤ c ∧ c ≤ 6
      · rw [if_pos e4, if_pos e4]
        have g1 := next_gt (tp := tp) (s := s) (h3 e0) (by omega)
        have g2 : (putP (valP tp n (nextP tp n s)) c 0).1 = 0 → (nextP tp n s).2.1 ≤ (putP (valP tp n (nextP tp n s)) c 0).2.1 ∧ (putP (valP tp n (nextP tp n s)) c 0).2.1 ≤ n := fun q => by
          have g3 := (Mo.val (tp := tp) (n := n) (s := nextP tp n s)).tr (Mo.put (k := c) (op := 0)) q
          exact ⟨g3.2.1, g3.2.2 g1.2.1⟩
        have g4 := h1 e0
        have g5 := h2 e0
        exact trmL_j j j' _ (fun q => by have := g2 q; omega) (fun q => by have := g2 q; omega) (fun q => (g2 q).2)
      · rw [if_neg e4, if_neg e4]
theorem smL_j {tp : Nat → Nat} {n : Nat} : ∀ (j j' : Nat) (s : xPS), (s.1 = 0 → n - s.2.1 ≤ j) → (s.1 = 0 → n - s.2.1 ≤ j') → (s.1 = 0 → s.2.1 ≤ n) → smL tp n j s = smL tp n j' s
  | 0, j', s, h1, h2, h3 => by
    by_cases e : s.1 = 0
    · have h4 := h1 e
      have h5 := stp_end (tp := tp) (n := n) (s := s) (by omega)
      cases j' with
      | zero => rfl
      | succ j' => simp only [smL, h5]
    · rw [smL_f' e, smL_f' e]
  | j + 1, 0, s, h1, h2, h3 => by
    by_cases e : s.1 = 0
    · have h4 := h2 e
      have h5 := stp_end (tp := tp) (n := n) (s := s) (by omega)
      simp only [smL, h5]
    · rw [smL_f' e, smL_f' e]
  | j + 1, j' + 1, s, h1, h2, h3 => by
    rcases hs : stpP tp n s with _ | c
    · simp only [smL, hs]
    · obtain ⟨e0, e1, e2, e3⟩ := stp_lt hs
      simp only [smL, hs]
      by_cases e4 : c = 2 ∨ c = 3
      · rw [if_pos e4, if_pos e4]
        have g1 := next_gt (tp := tp) (s := s) (h3 e0) (by omega)
        have g2 : (putP (trmP tp n (nextP tp n s)) c 0).1 = 0 → (nextP tp n s).2.1 ≤ (putP (trmP tp n (nextP tp n s)) c 0).2.1 ∧ (putP (trmP tp n (nextP tp n s)) c 0).2.1 ≤ n := fun q => by
          have g3 := (Mo.trmP (tp := tp) (n := n) (s := nextP tp n s)).tr (Mo.put (k := c) (op := 0)) q
          exact ⟨g3.2.1, g3.2.2 g1.2.1⟩
        have g4 := h1 e0
        have g5 := h2 e0
        exact smL_j j j' _ (fun q => by have := g2 q; omega) (fun q => by have := g2 q; omega) (fun q => (g2 q).2)
      · rw [if_neg e4, if_neg e4]
theorem val_gt {tp : Nat → Nat} {n : Nat} {s : xPS} (hp : s.2.1 ≤ n) (h : (valP tp n s).1 = 0) : s.1 = 0 ∧ s.2.1 + 1 ≤ (valP tp n s).2.1 ∧ (valP tp n s).2.1 ≤ n := by
  have h1 := Mo.val (tp := tp) (n := n) (s := s) h
  refine ⟨h1.1, ?_, h1.2.2 hp⟩
  have key : ∀ k v, kdA tp n (skP tp n s.2.1) ≠ 0 → s.2.1 + 1 ≤ (nextP tp n (putP (cntP s) k v)).2.1 := fun k v hk => by
    obtain ⟨f1, f2, f3⟩ := putP_f (s := cntP s) (k := k) (op := v)
    have f4 : (putP (cntP s) k v).2.1 = s.2.1 := f2
    have := (next_gt (tp := tp) (n := n) (s := putP (cntP s) k v) (by omega) (by rw [f4]; exact hk)).1
    omega
  unfold valP at h ⊢
  rcases hw : wiO tp n s.1 s.2.1 (wl 6) with _ | w
  · rw [hw] at h
    simp only at h ⊢
    by_cases c1 : ¬ (s.1 = 0 ∧ kdA tp n (skP tp n s.2.1) = 2)
    · rw [if_pos c1] at h; exact absurd h failP_ne
    · rw [if_neg c1] at h ⊢
      by_cases c2 : nmA tp n (skP tp n s.2.1) = -1
      · rw [if_pos c2] at h; exact absurd h failP_ne
      · rw [if_neg c2] at h ⊢
        by_cases c3 : 60 ≤ s.2.2.1
        · rw [if_pos c3] at h; exact absurd h failP_ne
        · rw [if_neg c3]
          exact key _ _ (by have := (Decidable.not_not.mp c1).2; omega)
  · have hk := (wiO_cnt hw).2.1
    rw [hw] at h
    simp only at h ⊢
    by_cases c3 : 60 ≤ s.2.2.1
    · rw [if_pos c3] at h; exact absurd h failP_ne
    · rw [if_neg c3]
      exact key _ _ (by omega)
theorem trmL_n {tp : Nat → Nat} {n j : Nat} {s : xPS} (h : stpP tp n s = none) : trmL tp n (j + 1) s = s := by simp only [trmL, h]
theorem smL_n {tp : Nat → Nat} {n j : Nat} {s : xPS} (h : stpP tp n s = none) : smL tp n (j + 1) s = s := by simp only [smL, h]
theorem trmL_e {tp : Nat → Nat} {n j c : Nat} {s : xPS} (h : stpP tp n s = some c) (hc : ¬ (4 ≤ c ∧ c ≤ 6)) : trmL tp n (j + 1) s = s := by simp only [trmL, h]; rw [if_neg hc]
theorem smL_e {tp : Nat → Nat} {n j c : Nat} {s : xPS} (h : stpP tp n s = some c) (hc : ¬ (c = 2 ∨ c = 3)) : smL tp n (j + 1) s = s := by simp only [smL, h]; rw [if_neg hc]
theorem sum_go {tp : Nat → Nat} {n : Nat} (hn : n ≤ 400) : ∀ (k : Nat) (iS iT : Option Nat) (s : xPS), (s.1 = 0 → n - s.2.1 + 2 ≤ 2 * k) → 1 ≤ k → (s.1 = 0 → s.2.1 ≤ n) → sumL tp n k iS iT s = smL tp n 400 (putO (trmL tp n 400 (putO (valP tp n s) iT)) iS)
  | 0, iS, iT, s, h1, h2, h3 => by omega
  | k + 1, iS, iT, s, h1, h2, h3 => by
    have hst : stpP tp n (putO (valP tp n s) iT) = stpP tp n (valP tp n s) := stp_putO
    have hO := putO_f (s := valP tp n s) (o := iT)
    rcases hs : stpP tp n (putO (valP tp n s) iT) with _ | c
    · rw [sumL_n hs]
      have e1 : trmL tp n 400 (putO (valP tp n s) iT) = putO (valP tp n s) iT := trmL_n (j := 399) hs
      have e2 : stpP tp n (putO (putO (valP tp n s) iT) iS) = none := by rw [stp_putO]; exact hs
      rw [e1]
      exact (smL_n (j := 399) e2).symm
    · obtain ⟨e0, e1, e2, e3⟩ := stp_lt hs
      rw [hO.1] at e0
      have hp0 : s.1 = 0 := (Mo.val (tp := tp) (n := n) (s := s) e0).1
      have g0 := val_gt (tp := tp) (n := n) (s := s) (h3 hp0) e0
      have g1 := h1 hp0
      have gp := h3 hp0
      by_cases c1 : 4 ≤ c ∧ c ≤ 6
      · rw [sumL_m hs c1.1 c1.2, trmL_s (j := 399) hs c1.1 c1.2]
        have g2 := next_gt (tp := tp) (n := n) (s := putO (valP tp n s) iT) (by omega) (by omega)
        rw [sum_go hn k iS (some c) (nextP tp n (putO (valP tp n s) iT)) (fun q => by omega) (by omega) (fun q => g2.2.1)]
        have g3 : (putP (valP tp n (nextP tp n (putO (valP tp n s) iT))) c 0).1 = 0 → (nextP tp n (putO (valP tp n s) iT)).2.1 ≤ (putP (valP tp n (nextP tp n (putO (valP tp n s) iT))) c 0).2.1 ∧ (putP (valP tp n (nextP tp n (putO (valP tp n s) iT))) c 0).2.1 ≤ n := fun q => by
          have g3 := (Mo.val (tp := tp) (n := n) (s := nextP tp n (putO (valP tp n s) iT))).tr (Mo.put (k := c) (op := 0)) q
          exact ⟨g3.2.1, g3.2.2 g2.2.1⟩
        rw [trmL_j 399 400 (putP (valP tp n (nextP tp n (putO (valP tp n s) iT))) c 0) (fun q => by have := g3 q; omega) (fun q => by omega) (fun q => (g3 q).2)]
        rfl
      · have t1 : trmL tp n 400 (putO (valP tp n s) iT) = putO (valP tp n s) iT := trmL_e (j := 399) hs c1
        have t2 : stpP tp n (putO (putO (valP tp n s) iT) iS) = some c := by rw [stp_putO]; exact hs
        have hO2 := putO_f (s := putO (valP tp n s) iT) (o := iS)
        rw [t1]
        by_cases c2 : c = 2 ∨ c = 3
        · rw [sumL_p hs c2, smL_s (j := 399) t2 c2]
          have e1' : kdA tp n (skP tp n (putO (putO (valP tp n s) iT) iS).2.1) = 3 := by rw [hO2.2.1]; exact e1
          have g2 := next_gt (tp := tp) (n := n) (s := putO (putO (valP tp n s) iT) iS) (by omega) (by omega)
          rw [sum_go hn k (some c) none (nextP tp n (putO (putO (valP tp n s) iT) iS)) (fun q => by omega) (by omega) (fun q => g2.2.1)]
          have g3 : (putP (trmP tp n (nextP tp n (putO (putO (valP tp n s) iT) iS))) c 0).1 = 0 → (nextP tp n (putO (putO (valP tp n s) iT) iS)).2.1 ≤ (putP (trmP tp n (nextP tp n (putO (putO (valP tp n s) iT) iS))) c 0).2.1 ∧ (putP (trmP tp n (nextP tp n (putO (putO (valP tp n s) iT) iS))) c 0).2.1 ≤ n := fun q => by
            have g3 := (Mo.trmP (tp := tp) (n := n) (s := nextP tp n (putO (putO (valP tp n s) iT) iS))).tr (Mo.put (k := c) (op := 0)) q
            exact ⟨g3.2.1, g3.2.2 g2.2.1⟩
          rw [smL_j 399 400 (putP (trmP tp n (nextP tp n (putO (putO (valP tp n s) iT) iS))) c 0) (fun q => by have := g3 q; omega) (fun q => by omega) (fun q => (g3 q).2)]
          rfl
        · rw [sumL_e hs c1 c2]
          exact (smL_e (j := 399) t2 c2).symm
theorem sum_eq {tp : Nat → Nat} {n : Nat} {s : xPS} (hn : n ≤ 400) (h : s.1 = 0 → s.2.1 ≤ n) : sumL tp n 400 none none s = sumP tp n s := sum_go hn 400 none none s (fun _ => by omega) (by decide) h
/-! facts of a sign -/
theorem ct_0 {tp : Nat → Nat} {n : Nat} {s : xPS} (h : (ctP tp n s).1 = 0) : s.1 = 0 ∧ s.2.2.1 < 60 ∧ ctP tp n s = cntP s := by
  by_cases e : s.1 = 0 ∧ s.2.2.1 < 60
  · exact ⟨e.1, e.2, if_pos e⟩
  · rw [show ctP tp n s = failP tp n s 3 from if_neg e] at h
    exact absurd h failP_ne
theorem Hb.ct {tp : Nat → Nat} {n c : Nat} {s : xPS} (h : Hb n c s) : Hb n (c + 6) (ctP tp n s) := fun q => by
  obtain ⟨h0, h1, h2⟩ := ct_0 q
  obtain ⟨b1, b2, b3⟩ := h h0
  rw [h2]
  exact ⟨b1, h1, by show 3 * s.2.2.2.length + (c + 6) ≤ 6 * (s.2.2.1 + 1) + s.2.1 + 30; omega⟩
theorem cmp_tok {tp : Nat → Nat} {n p c : Nat} (h : p < n) (hc : tp p = c) (h1 : c = 60 ∨ c = 62) : kdA tp n p = 3 ∧ (p + 1 < n ∧ tp (p + 1) = 61 → atA tp n p = p + 1 + 1 ∧ sgA tp n p = c + 256) ∧ (¬ (p + 1 < n ∧ tp (p + 1) = 61) → atA tp n p = p + 1 ∧ sgA tp n p = c) := by
  have a1 := isLw_f (tp := tp) (pl := p) (by omega)
  have a2 := isDg_f (tp := tp) (pl := p) (by omega)
  have a3 := kd_s h a1 a2
  refine ⟨a3, fun q => ?_, fun q => ?_⟩
  · have a4 : twA tp n p = true := decide_eq_true ⟨by omega, q⟩
    rw [sg_s h a3, at_s h a1 a2, if_pos a4, if_pos a4, hc]
    exact ⟨rfl, rfl⟩
  · have a4 : ¬ twA tp n p = true := fun z => q (of_decide_eq_true z).2
    rw [sg_s h a3, at_s h a1 a2, if_neg a4, if_neg a4, hc]
    exact ⟨rfl, rfl⟩
theorem cmp_y {tp : Nat → Nat} {n c : Nat} {s : xPS} (hn : n ≤ 400) (hs : s.1 = 0 → s.2.1 ≤ n) (hst : (sumP tp n s).1 = 0 → stpP tp n (sumP tp n s) = some c) (hc : 7 ≤ c) : (cmpP tp n s).1 = (putP (sumP tp n (nextP tp n (ctP tp n (sumP tp n s)))) c 0).1 ∧ ((putP (sumP tp n (nextP tp n (ctP tp n (sumP tp n s)))) c 0).1 = 0 → cmpP tp n s = putP (sumP tp n (nextP tp n (ctP tp n (sumP tp n s)))) c 0) := by
  have f1 := (putP_f (s := sumP tp n (nextP tp n (ctP tp n (sumP tp n s)))) (k := c) (op := 0)).1
  unfold cmpP
  rw [sum_eq hn hs]
  by_cases e : (sumP tp n s).1 = 0
  · have hp : (sumP tp n s).2.1 ≤ n := by
      have h1 := Mo.sumP (tp := tp) (n := n) (s := s) e
      exact h1.2.2 (hs h1.1)
    simp only [hst e]
    rw [if_neg (by omega)]
    by_cases h60 : 60 ≤ (sumP tp n s).2.2.1
    · rw [if_pos h60]
      have h2 : ctP tp n (sumP tp n s) = failP tp n (sumP tp n s) 3 := if_neg (by omega)
      rw [h2] at f1 ⊢
      have h3 : (nextP tp n (failP tp n (sumP tp n s) 3)).1 ≠ 0 := failP_ne
      rw [f1, sumP_ff h3]
      exact ⟨rfl, fun q => absurd q h3⟩
    · rw [if_neg h60]
      have h2 : ctP tp n (sumP tp n s) = cntP (sumP tp n s) := if_pos ⟨e, by omega⟩
      rw [h2]
      have h4 : sumL tp n 400 none none (nextP tp n (cntP (sumP tp n s))) = sumP tp n (nextP tp n (cntP (sumP tp n s))) := sum_eq hn (fun _ => (at_le (sk_le hp).2).2.1)
      rw [h4]
      exact ⟨rfl, fun _ => rfl⟩
  · simp only [stp_f e]
    have h2 : ctP tp n (sumP tp n s) = failP tp n (sumP tp n s) 3 := if_neg (fun q => e q.1)
    rw [h2] at f1 ⊢
    have h3 : (nextP tp n (failP tp n (sumP tp n s) 3)).1 = (sumP tp n s).1 := flP_f e
    rw [f1, sumP_ff (by rw [h3]; exact e), h3]
    exact ⟨flP_f e, fun q => absurd q e⟩
theorem cmp_n {tp : Nat → Nat} {n p : Nat} {s : xPS} (hn : n ≤ 400) (hlt : ∀ j, tp j < 256) (hs : s.1 = 0 → s.2.1 ≤ n) (hp : (sumP tp n s).1 = 0 → p = skP tp n (sumP tp n s).2.1) (h1 : ¬ (p < n ∧ tp p = 60)) (h2 : ¬ (p < n ∧ tp p = 61)) (h3 : ¬ (p < n ∧ tp p = 62)) : cmpP tp n s = failP tp n (sumP tp n s) 0 := by
  unfold cmpP
  rw [sum_eq hn hs]
  rcases hq : stpP tp n (sumP tp n s) with _ | c
  · rfl
  · have h4 := stp_lt hq
    have h5 := stp_n hlt (hp h4.1) hq
    simp only
    rw [if_pos (by omega)]
theorem stp_c {tp : Nat → Nat} {n p c k : Nat} {s : xPS} (h0 : s.1 = 0) (hp : p = skP tp n s.2.1) (h3 : kdA tp n p = 3) (h4 : sgA tp n p = c) (hk : sgK c = some k) : stpP tp n s = some k := by
  unfold stpP
  rw [← hp, if_pos ⟨h0, h3⟩, h4]; exact hk
theorem Hb_cmp {tp : Nat → Nat} {n c : Nat} {s : xPS} (hn : n ≤ 400) (h : Hb n c s) : Hb n (c + 9) (cmpP tp n s) := by
  have hs : s.1 = 0 → s.2.1 ≤ n := fun q => (h q).1
  unfold cmpP
  rw [sum_eq hn hs]
  split
  · exact fun q => absurd q failP_ne
  · split
    · exact fun q => absurd q failP_ne
    · split
      · exact fun q => absurd q failP_ne
      · rename_i c1 hst h7 h60
        obtain ⟨e0, e1, e2, e3⟩ := stp_lt hst
        have hb := Hb.sumP (tp := tp) h
        have h2 : ctP tp n (sumP tp n s) = cntP (sumP tp n s) := if_pos ⟨e0, by omega⟩
        have hp := (hb e0).1
        rw [sum_eq hn (fun _ => (at_le (sk_le hp).2).2.1), ← h2]
        exact Hb.put (Hb.sumP (Hb.next (Hb.ct hb)))
theorem cmp_hz {A : Nat → Nat → Int32} {tp : Nat → Nat} {tn p co en dd op sl de px : Nat} {os : List Nat} {S : xPS} (hz : S.1 = 0 → p ≤ tn ∧ p = skP tp tn S.2.1 ∧ co = S.2.2.1 ∧ co ≤ 60 ∧ en = (stE S.2.2.2).length ∧ dd = de ∧ op = os.length ∧ OsR (A 34) os ∧ EnR A sl (stE S.2.2.2)) (ha : atA tp tn p = px) (q : (nextP tp tn (ctP tp tn S)).1 = 0) (hpx : px ≤ tn) : px ≤ tn ∧ px = (nextP tp tn (ctP tp tn S)).2.1 ∧ co + 1 = (nextP tp tn (ctP tp tn S)).2.2.1 ∧ co + 1 ≤ 60 ∧ en = (stE (nextP tp tn (ctP tp tn S)).2.2.2).length ∧ dd = de ∧ op = os.length ∧ OsR (A 34) os ∧ EnR A sl (stE (nextP tp tn (ctP tp tn S)).2.2.2) := by
  obtain ⟨c1, c2, c3⟩ := ct_0 (tp := tp) (n := tn) (s := S) q
  obtain ⟨z1, z2, z3, z4, z5, z6, z7, z8, z9⟩ := hz c1
  rw [c3]
  refine ⟨hpx, ?_, ?_, by omega, z5, z6, z7, z8, z9⟩
  · show px = atA tp tn (skP tp tn S.2.1)
    rw [← z2, ha]
  · show co + 1 = S.2.2.1 + 1
    rw [z3]
