/-! ===== what a hall that was read holds ===== -/
def HPJ (hl : xHl) : Prop := CntOk hl ∧ (∀ t, t < hl 0 4 → hl 4 t < hl 0 2 ∧ hl 7 t ≤ 1 ∧ hl 5 t ≤ 299 ∧ 1 ≤ hl 6 t ∧ hl 6 t ≤ 30) ∧ (∀ j, j < 16 → hl 3 j ≤ 60) ∧ (∀ j, hl 0 3 * 4 ≤ j → hl 3 j = 0) ∧ (∀ s, s < hl 0 2 → hl 1 s ≤ 9 ∧ hl 2 s ≤ 9) ∧ ∀ i j, hl i j < 1000000
def TMI (hl : xHl) : Prop := 1 ≤ hl 0 0 ∧ hl 0 0 ≤ 300 ∧ 1 ≤ hl 0 1 ∧ hl 0 1 ≤ 300
section HPL
variable {tp : Nat → Nat} {n f p a b c bf : Nat} {hl : xHl}
theorem tn_b (ha : a < 2 ^ 31) (hb : b < 2 ^ 31) (h : (tnP tp n f p (nI a) (nI b)).1 = 0) : f = 0 ∧ a ≤ nmN tp n p ∧ nmN tp n p ≤ b := by
  obtain ⟨h1, -, h3, h4, h5, -⟩ := tn_ok (v := nmA tp n (skP tp n p)) (p' := (tnP tp n f p (nI a) (nI b)).2) (Prod.ext h rfl) (fun _ => rfl) ha
  exact ⟨h1, h3, hi_c h5 hb h4⟩
theorem tn_c (hc : c < 1000) (h : (tnP tp n f p (nI 0) (nI c - nI 1)).1 = 0) : f = 0 ∧ nmN tp n p < c := by
  obtain ⟨h1, -, h3, h4, h5, -⟩ := tn_ok (v := nmA tp n (skP tp n p)) (p' := (tnP tp n f p (nI 0) (nI c - nI 1)).2) (Prod.ext h rfl) (fun _ => rfl) (by decide)
  refine ⟨h1, ?_⟩
  cases c with
  | zero =>
    exfalso
    apply h5
    rw [show nI 0 - nI 1 = (-1 : Int32) by decide]
    apply Int32.lt_iff_toInt_lt.mpr
    rw [nI_toInt h4, show ((-1 : Int32)).toInt = -1 by decide]
    omega
  | succ c =>
    rw [pk_sub (by omega), show c + 1 - 1 = c by omega] at h5
    have := hi_c h5 (by omega) h4
    omega
theorem HPJ.times (h : HPJ hl) (ha : a < 1000000) (hb : b < 1000000) : HPJ (set2 (set2 hl 0 0 a) 0 1 b) := by
  obtain ⟨⟨c1, c2, c3⟩, h2, h3, h4, h5, h6⟩ := h
  have g : ∀ i j, ¬ (i = 0 ∧ j < 2) → set2 (set2 hl 0 0 a) 0 1 b i j = hl i j := fun i j e => by rw [s2_ne (by omega), s2_ne (by omega)]
  refine ⟨⟨by rw [g _ _ (by omega)]; exact c1, by rw [g _ _ (by omega)]; exact c2, by rw [g _ _ (by omega)]; exact c3⟩, fun t ht => ?_, fun j hj => ?_, fun j j1 => ?_, fun s hs => ?_, fun i j => ?_⟩
  · rw [g _ _ (by omega)] at ht
    rw [g _ _ (by omega), g _ _ (by omega), g _ _ (by omega), g _ _ (by omega), g _ _ (by omega)]
    exact h2 t ht
  · rw [g _ _ (by omega)]; exact h3 j hj
  · rw [g _ _ (by omega)] at j1
    rw [g _ _ (by omega)]; exact h4 j j1
  · rw [g _ _ (by omega)] at hs
    rw [g _ _ (by omega), g _ _ (by omega)]; exact h5 s hs
  · unfold set2
    split
    · exact hb
    · split
      · exact ha
      · exact h6 i j
theorem HPJ.sort (h : HPJ hl) (h4s : hl 0 2 < 4) (ha : a ≤ 9) (hb : b ≤ 9) : HPJ (set2 (set2 (set2 hl 1 (hl 0 2) a) 2 (hl 0 2) b) 0 2 (hl 0 2 + 1)) := by
  obtain ⟨⟨c1, c2, c3⟩, h2, h3, h4, h5, h6⟩ := h
  generalize hX : set2 (set2 (set2 hl 1 (hl 0 2) a) 2 (hl 0 2) b) 0 2 (hl 0 2 + 1) = X
  have g : ∀ i j, ¬ (i = 0 ∧ j = 2) → ¬ (i = 1 ∧ j = hl 0 2) → ¬ (i = 2 ∧ j = hl 0 2) → X i j = hl i j := fun i j e1 e2 e3 => by rw [← hX, s2_ne e1, s2_ne e3, s2_ne e2]
  have g2 : X 0 2 = hl 0 2 + 1 := by rw [← hX, s2_at]
  have ga : X 1 (hl 0 2) = a := by rw [← hX, s2_ne (by omega), s2_ne (by omega), s2_at]
  have gb : X 2 (hl 0 2) = b := by rw [← hX, s2_ne (by omega), s2_at]
  refine ⟨⟨by rw [g2]; omega, by rw [g _ _ (by omega) (by omega) (by omega)]; exact c2, by rw [g _ _ (by omega) (by omega) (by omega)]; exact c3⟩, fun t ht => ?_, fun j hj => ?_, fun j j1 => ?_, fun s hs => ?_, fun i j => ?_⟩
  · rw [g _ _ (by omega) (by omega) (by omega)] at ht
    rw [g2, g 4 _ (by omega) (by omega) (by omega), g 7 _ (by omega) (by omega) (by omega), g 5 _ (by omega) (by omega) (by omega), g 6 _ (by omega) (by omega) (by omega)]
    have := h2 t ht
    omega
  · rw [g _ _ (by omega) (by omega) (by omega)]; exact h3 j hj
  · rw [g _ _ (by omega) (by omega) (by omega)] at j1
    rw [g _ _ (by omega) (by omega) (by omega)]; exact h4 j j1
  · rw [g2] at hs
    by_cases e : s = hl 0 2
    · subst e; rw [ga, gb]; exact ⟨ha, hb⟩
    · rw [g _ _ (by omega) (by omega) (by omega), g _ _ (by omega) (by omega) (by omega)]; exact h5 s (by omega)
  · rw [← hX]
    unfold set2
    split
    · omega
    · split
      · omega
      · split
        · omega
        · exact h6 i j
theorem HPJ.mender (h : HPJ hl) (h4s : hl 0 3 < 4) : HPJ (set2 hl 0 3 (hl 0 3 + 1)) := by
  obtain ⟨⟨c1, c2, c3⟩, h2, h3, h4, h5, h6⟩ := h
  have g : ∀ i j, ¬ (i = 0 ∧ j = 3) → set2 hl 0 3 (hl 0 3 + 1) i j = hl i j := fun i j e => s2_ne e
  have g3 : set2 hl 0 3 (hl 0 3 + 1) 0 3 = hl 0 3 + 1 := s2_at
  refine ⟨⟨by rw [g _ _ (by omega)]; exact c1, by rw [g3]; omega, by rw [g _ _ (by omega)]; exact c3⟩, fun t ht => ?_, fun j hj => ?_, fun j j1 => ?_, fun s hs => ?_, fun i j => ?_⟩
  · rw [g _ _ (by omega)] at ht
    rw [g 4 _ (by omega), g 0 2 (by omega), g 7 _ (by omega), g 5 _ (by omega), g 6 _ (by omega)]
    exact h2 t ht
  · rw [g _ _ (by omega)]; exact h3 j hj
  · rw [g3] at j1
    rw [g _ _ (by omega)]; exact h4 j (by omega)
  · rw [g _ _ (by omega)] at hs
    rw [g 1 _ (by omega), g 2 _ (by omega)]; exact h5 s hs
  · unfold set2
    split
    · omega
    · exact h6 i j
theorem HPJ.skill {q s v : Nat} (h : HPJ hl) (hq : q < hl 0 3) (hs4 : s < hl 0 2) (hv : v ≤ 60) : HPJ (set2 hl 3 (q * 4 + s) v) := by
  obtain ⟨⟨c1, c2, c3⟩, h2, h3, h4, h5, h6⟩ := h
  have g : ∀ i j, ¬ (i = 3 ∧ j = q * 4 + s) → set2 hl 3 (q * 4 + s) v i j = hl i j := fun i j e => s2_ne e
  refine ⟨⟨by rw [g _ _ (by omega)]; exact c1, by rw [g _ _ (by omega)]; exact c2, by rw [g _ _ (by omega)]; exact c3⟩, fun t ht => ?_, fun j hj => ?_, fun j j1 => ?_, fun s' hs => ?_, fun i j => ?_⟩
  · rw [g _ _ (by omega)] at ht
    rw [g 4 _ (by omega), g 0 2 (by omega), g 7 _ (by omega), g 5 _ (by omega), g 6 _ (by omega)]
    exact h2 t ht
  · by_cases e : j = q * 4 + s
    · rw [e, s2_at]; exact hv
    · rw [g _ _ (by omega)]; exact h3 j hj
  · rw [g _ _ (by omega)] at j1
    rw [g _ _ (by omega)]; exact h4 j j1
  · rw [g _ _ (by omega)] at hs
    rw [g 1 _ (by omega), g 2 _ (by omega)]; exact h5 s' hs
  · unfold set2
    split
    · omega
    · exact h6 i j
theorem HPJ.thing {s m w d : Nat} (h : HPJ hl) (h7 : hl 0 4 < 7) (hs4 : s < hl 0 2) (hm : m ≤ 299) (hw1 : 1 ≤ w) (hw : w ≤ 30) (hd : d ≤ 1) : HPJ (set2 (set2 (set2 (set2 (set2 hl 4 (hl 0 4) s) 5 (hl 0 4) m) 6 (hl 0 4) w) 7 (hl 0 4) d) 0 4 (hl 0 4 + 1)) := by
  obtain ⟨⟨c1, c2, c3⟩, h2, h3, h4, h5, h6⟩ := h
  generalize hX : set2 (set2 (set2 (set2 (set2 hl 4 (hl 0 4) s) 5 (hl 0 4) m) 6 (hl 0 4) w) 7 (hl 0 4) d) 0 4 (hl 0 4 + 1) = X
  have g : ∀ i j, ¬ (i = 0 ∧ j = 4) → ¬ (4 ≤ i ∧ j = hl 0 4) → X i j = hl i j := fun i j e1 e2 => by rw [← hX, s2_ne e1, s2_ne (by omega), s2_ne (by omega), s2_ne (by omega), s2_ne (by omega)]
  have g4 : X 0 4 = hl 0 4 + 1 := by rw [← hX, s2_at]
  have t4 : X 4 (hl 0 4) = s := by rw [← hX, s2_ne (by omega), s2_ne (by omega), s2_ne (by omega), s2_ne (by omega), s2_at]
  have t5 : X 5 (hl 0 4) = m := by rw [← hX, s2_ne (by omega), s2_ne (by omega), s2_ne (by omega), s2_at]
  have t6 : X 6 (hl 0 4) = w := by rw [← hX, s2_ne (by omega), s2_ne (by omega), s2_at]
  have t7 : X 7 (hl 0 4) = d := by rw [← hX, s2_ne (by omega), s2_at]
  refine ⟨⟨by rw [g _ _ (by omega) (by omega)]; exact c1, by rw [g _ _ (by omega) (by omega)]; exact c2, by rw [g4]; omega⟩, fun t ht => ?_, fun j hj => ?_, fun j j1 => ?_, fun s' hs => ?_, fun i j => ?_⟩
  · rw [g4] at ht
    rw [g 0 2 (by omega) (by omega)]
    by_cases e : t = hl 0 4
    · subst e; rw [t4, t5, t6, t7]; omega
    · rw [g 4 _ (by omega) (by omega), g 7 _ (by omega) (by omega), g 5 _ (by omega) (by omega), g 6 _ (by omega) (by omega)]
      exact h2 t (by omega)
  · rw [g _ _ (by omega) (by omega)]; exact h3 j hj
  · rw [g _ _ (by omega) (by omega)] at j1
    rw [g _ _ (by omega) (by omega)]; exact h4 j j1
  · rw [g _ _ (by omega) (by omega)] at hs
    rw [g 1 _ (by omega) (by omega), g 2 _ (by omega) (by omega)]; exact h5 s' hs
  · rw [← hX]
    have := h6 i j
    unfold set2
    split
    · omega
    · split
      · omega
      · split
        · omega
        · split
          · omega
          · split
            · omega
            · exact this
theorem fl_ne {y : Nat} : flP tp n f p y ≠ 0 := by
  unfold flP
  split <;> omega
theorem clP_J (h : HPJ hl) (h0 : (clP tp n f p hl bf).1 = 0) : HPJ (clP tp n f p hl bf).2.2 ∧ (bf ≠ 0 → TMI hl → TMI (clP tp n f p hl bf).2.2) ∧ (bf = 0 → TMI (clP tp n f p hl bf).2.2) := by
  have hc := h.1
  obtain ⟨c1, c2, c3⟩ := hc
  unfold clP at h0 ⊢
  split at h0
  · exact absurd h0 fl_ne
  · rename_i w hw
    by_cases et : tooM hl w bf = true
    · rw [if_pos et] at h0; exact absurd h0 fl_ne
    · rw [if_neg et] at h0 ⊢
      have ht' := of_decide_eq_false (by simpa using et : tooM hl w bf = false)
      by_cases e0 : w = 0
      · rw [if_pos e0] at h0 ⊢
        have b2 := tn_b (by decide) (by decide) h0
        have b1 := tn_b (by decide) (by decide) b2.1
        have hT : TMI (rhaP tp n (atA tp n (skP tp n p)) hl).2.2 := by
          unfold rhaP TMI
          simp only []
          rw [s2_ne (i := 0) (j := 1) (by omega), s2_at, s2_at]
          omega
        exact ⟨h.times (by omega) (by omega), fun _ _ => hT, fun _ => hT⟩
      · rw [if_neg e0] at h0 ⊢
        have hbf : bf ≠ 0 := by omega
        by_cases e1 : w = 1
        · rw [if_pos e1] at h0 ⊢
          have b2 := tn_b (by decide) (by decide) h0
          have b1 := tn_b (by decide) (by decide) b2.1
          refine ⟨h.sort (by omega) b1.2.2 b2.2.2, fun _ hT => ?_, fun z => absurd z hbf⟩
          obtain ⟨a1, a2, a3, a4⟩ := hT
          unfold rsoP TMI
          simp only []
          rw [s2_ne (by omega), s2_ne (by omega), s2_ne (by omega), s2_ne (by omega), s2_ne (by omega), s2_ne (by omega)]
          exact ⟨a1, a2, a3, a4⟩
        · rw [if_neg e1] at h0 ⊢
          by_cases e2 : w = 2
          · rw [if_pos e2] at h0 ⊢
            refine ⟨h.mender (by omega), fun _ hT => ?_, fun z => absurd z hbf⟩
            obtain ⟨a1, a2, a3, a4⟩ := hT
            unfold TMI
            simp only []
            rw [s2_ne (by omega), s2_ne (by omega)]
            exact ⟨a1, a2, a3, a4⟩
          · rw [if_neg e2] at h0 ⊢
            by_cases e3 : w = 3
            · rw [if_pos e3] at h0 ⊢
              have b3 := tn_b (by decide) (by decide) h0
              have b2 := tn_c (by omega) b3.1
              have b1 := tn_c (by omega) b2.1
              refine ⟨h.skill b1.2 b2.2 b3.2.2, fun _ hT => ?_, fun z => absurd z hbf⟩
              obtain ⟨a1, a2, a3, a4⟩ := hT
              unfold rskP TMI
              simp only []
              rw [s2_ne (by omega), s2_ne (by omega)]
              exact ⟨a1, a2, a3, a4⟩
            · rw [if_neg e3] at h0 ⊢
              have hw4 := (wiO_cnt hw).2.2
              rw [wl0_cnt] at hw4
              have b4 := tn_b (by decide) (by decide) h0
              have b3 := tn_b (by decide) (by decide) b4.1
              have b2 := tn_b (by decide) (by decide) b3.1
              have b1 := tn_c (by omega) b2.1
              refine ⟨h.thing (by omega) b1.2 b2.2.2 b3.2.1 b3.2.2 b4.2.2, fun _ hT => ?_, fun z => absurd z hbf⟩
              obtain ⟨a1, a2, a3, a4⟩ := hT
              unfold rthP TMI
              simp only []
              rw [s2_ne (by omega), s2_ne (by omega), s2_ne (by omega), s2_ne (by omega), s2_ne (by omega), s2_ne (by omega), s2_ne (by omega), s2_ne (by omega), s2_ne (by omega), s2_ne (by omega)]
              exact ⟨a1, a2, a3, a4⟩
theorem hrL_J : ∀ (k bf : Nat) (s : Nat × Nat × xHl), bf ≠ 0 → (s.1 = 0 → HPJ s.2.2 ∧ TMI s.2.2) → (hrL tp n k bf s).1 = 0 → HPJ (hrL tp n k bf s).2.2 ∧ TMI (hrL tp n k bf s).2.2
  | 0, _, _, _, h, h0 => h h0
  | k + 1, bf, s, hb, h, h0 => by
    by_cases e : isS tp n s.1 s.2.1 59 = true
    · rw [hrL_t e] at h0 ⊢
      have hs0 : s.1 = 0 := (of_decide_eq_true e).1
      refine hrL_J k (bf + 1) _ (by omega) (fun z => ?_) h0
      obtain ⟨j1, j2⟩ := h hs0
      obtain ⟨r1, r2, -⟩ := clP_J j1 z
      exact ⟨r1, r2 hb j2⟩
    · have e2 : isS tp n s.1 s.2.1 59 = false := by simpa using e
      rw [hrL_f e2] at h0 ⊢
      exact h h0
theorem clr_J (h6 : ∀ i j, hl i j < 1000000) : HPJ (hlClr hl) := by
  have g : ∀ j, (j = 2 ∨ j = 3 ∨ j = 4) → hlClr hl 0 j = 0 := fun j hj => by unfold hlClr; rw [if_pos ⟨rfl, hj⟩]
  have g3 : ∀ j, hlClr hl 3 j = 0 := fun j => by unfold hlClr; rw [if_neg (by omega), if_pos rfl]
  refine ⟨⟨by rw [g 2 (by omega)]; omega, by rw [g 3 (by omega)]; omega, by rw [g 4 (by omega)]; omega⟩, fun t ht => ?_, fun j _ => by rw [g3]; omega, fun j _ => g3 j, fun s hs => ?_, fun i j => ?_⟩
  · rw [g 4 (by omega)] at ht; omega
  · rw [g 2 (by omega)] at hs; omega
  · unfold hlClr
    have := h6 i j
    split
    · omega
    · split <;> omega
theorem hall_J (h6 : ∀ i j, hl i j < 1000000) (h0 : (hallP tp n hl).1 = 0) : HPJ (hallP tp n hl).2 ∧ TMI (hallP tp n hl).2 := by
  have h1 : (hrP tp n hl).1 = 0 := by
    have : eeP tp n (hrP tp n hl).1 (hrP tp n hl).2.1 = 0 := h0
    unfold eeP at this
    split at this
    · rename_i z; exact z.1
    · exact absurd this fl_ne
  refine hrL_J (tp := tp) (n := n) 40 1 (clP tp n 0 0 (hlClr hl) 0) (by decide) (fun z => ?_) h1
  obtain ⟨r1, -, r3⟩ := clP_J (clr_J h6) z
  exact ⟨r1, r3 rfl⟩
theorem HPJ.ok (h : HPJ hl) (ht : TMI hl) : HallOk hl := by
  obtain ⟨⟨c1, c2, c3⟩, h2, h3, h4, h5, h6⟩ := h
  obtain ⟨t1, t2, t3, t4⟩ := ht
  exact ⟨c1, c2, c3, fun t z => by have := h2 t z; omega, fun j z => h3 j (by omega), fun s z => (h5 s z).1, t2, t4⟩
end HPL
