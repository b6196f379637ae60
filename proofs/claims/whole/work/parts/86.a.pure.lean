/-! ===== the reference's tests: what a fact keeps ===== -/
theorem cmp_gt {tp : Nat → Nat} {n : Nat} {s : xPS} (hn : n ≤ 400) (hp : s.2.1 ≤ n) (h : (cmpP tp n s).1 = 0) : s.1 = 0 ∧ s.2.1 + 1 ≤ (cmpP tp n s).2.1 ∧ (cmpP tp n s).2.1 ≤ n := by
  have h1 := Mo.cmp (tp := tp) (n := n) (s := s) h
  refine ⟨h1.1, ?_, h1.2.2 hp⟩
  have hs : sumL tp n 400 none none s = sumP tp n s := sum_eq hn (fun _ => hp)
  unfold cmpP at h ⊢
  rw [hs] at h ⊢
  rcases hst : stpP tp n (sumP tp n s) with _ | c
  · rw [hst] at h; exact absurd h failP_ne
  · rw [hst] at h
    simp only at h ⊢
    obtain ⟨e0, e1, e2, e3⟩ := stp_lt hst
    have g1 := Mo.sumP (tp := tp) (n := n) (s := s) e0
    have g2 := next_gt (tp := tp) (n := n) (s := sumP tp n s) (g1.2.2 hp) (by omega)
    by_cases c1 : c < 7
    · rw [if_pos c1] at h; exact absurd h failP_ne
    · rw [if_neg c1] at h ⊢
      by_cases c2 : 60 ≤ (sumP tp n s).2.2.1
      · rw [if_pos c2] at h; exact absurd h failP_ne
      · rw [if_neg c2] at h ⊢
        have g3 := (Mo.sum (tp := tp) (n := n) (k := 400) (iS := none) (iT := none) (s := nextP tp n (cntP (sumP tp n s)))).tr (Mo.put (k := c) (op := 0)) h
        have g4 : (nextP tp n (cntP (sumP tp n s))).2.1 = (nextP tp n (sumP tp n s)).2.1 := rfl
        have g5 := g3.2.1
        have g6 := g1.2.1
        omega
theorem fc_inv {tp : Nat → Nat} {n : Nat} {os : List Nat} {s : xPS} (hn : n ≤ 400) (h0 : s.1 = 0) (hol : os.length ≤ s.2.1) (hom : ∀ o ∈ os, o < 13) (hdp : dpt os ≤ 10) (hp : s.2.1 ≤ n) (hb : Hb n (3 * pnd os + 3) s) : ((fcP tp n os s).2.2.1 = 0 → s.2.1 + 1 ≤ (fcP tp n os s).2.2.2.1 ∧ (fcP tp n os s).2.1.length ≤ (fcP tp n os s).2.2.2.1 ∧ (∀ o ∈ (fcP tp n os s).2.1, o < 13) ∧ dpt (fcP tp n os s).2.1 ≤ 10) ∧ Hb n (3 * pnd (fcP tp n os s).2.1 + (if (!(fcP tp n os s).1) = true then 3 else 6)) (fcP tp n os s).2.2 := by
  by_cases hd : 10 ≤ dpt os ∧ (isW tp n s 5 = true ∨ isS tp n s.1 s.2.1 91 = true)
  · rw [fc_deep hd.2 hd.1]
    exact ⟨fun q => absurd q failP_ne, fun q => absurd q failP_ne⟩
  · rcases h5 : isW tp n s 5 with _ | _
    · rcases h6 : isS tp n s.1 s.2.1 91 with _ | _
      · rw [fc_cmp h5 h6]
        refine ⟨fun q => ?_, ?_⟩
        · have := cmp_gt hn hp q
          exact ⟨this.2.1, by show os.length ≤ (cmpP tp n s).2.1; omega, hom, hdp⟩
        · exact (Hb_cmp hn hb).wk (by show 3 * pnd os + 6 ≤ _; omega)
      · have hd10 : dpt os < 10 := Nat.lt_of_not_le (fun q => hd ⟨q, Or.inr h6⟩)
        rw [fc_br h5 h6 hd10]
        have h7 := of_decide_eq_true h6
        have g := next_gt (tp := tp) (n := n) (s := s) hp (by omega)
        refine ⟨fun q => ⟨g.1, by show (12 :: os).length ≤ (nextP tp n s).2.1; simp only [List.length_cons]; omega, fun o ho => ?_, by show dpt os + 1 ≤ 10; omega⟩, ?_⟩
        · rcases List.mem_cons.mp ho with e1 | e1
          · omega
          · exact hom o e1
        · exact Hb.next hb
    · have hd10 : dpt os < 10 := Nat.lt_of_not_le (fun q => hd ⟨q, Or.inl h5⟩)
      rw [fc_not h5 hd10]
      have h7 := isW_at (tp := tp) (n := n) (p := skP tp n s.2.1) (i := 5) (j := 19) (by decide) (by decide) (by decide) wl_e5 h0 rfl
      rw [h5] at h7
      have h8 := st_at (tp := tp) (n := n) (by decide) xl_19 h7.symm
      have h9 := sk_le (tp := tp) hp
      have h10 : (nextP tp n s).2.1 = skP tp n s.2.1 + 3 := h8.2
      refine ⟨fun q => ⟨by show s.2.1 + 1 ≤ (nextP tp n s).2.1; omega, by show (9 :: os).length ≤ (nextP tp n s).2.1; simp only [List.length_cons]; omega, fun o ho => ?_, by show dpt os + 1 ≤ 10; omega⟩, ?_⟩
      · rcases List.mem_cons.mp ho with e1 | e1
        · omega
        · exact hom o e1
      · refine (Hb.p3 (m := 3) hb (fun _ => by omega)).wk ?_
        rw [pnd_c (by decide)]
        show 3 * (pnd os + 1) + 3 ≤ _
        omega
