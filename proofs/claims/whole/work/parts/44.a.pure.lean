/-! ===== the class: hall, rule, images, made ===== -/
def openC (c : xCo) (hk : xHl) : xCo := ((hk, clearR hk), (c.2.1.1, 0), (true, c.2.2.1.2), (c.2.2.2.1, 0))
theorem HRend.to {G0 G : xHp} {b tx : Nat} {s : Nat × xHl} (h : HRend G0 G b tx s) (h9 : s.1 = 0 → ∀ j, s.2 1 j ≤ 9) : HRs G b tx := by
  obtain ⟨h1, h2, h3, h4, h5⟩ := h
  refine ⟨h3, ?_, h2⟩
  rcases h1 with ⟨q1, q2⟩ | ⟨q1, hl, e, w, q2, q3⟩
  · exact ⟨s.2, _, _, h9 q1, q2.wide⟩
  · exact ⟨hl, e, w, q2, q3⟩
theorem hrL_l9 {tp : Nat → Nat} {n : Nat} : ∀ (k bf : Nat) (s : Nat × Nat × xHl), (s.1 = 0 → ∀ j, s.2.2 1 j ≤ 9) → (hrL tp n k bf s).1 = 0 → ∀ j, (hrL tp n k bf s).2.2 1 j ≤ 9
  | 0, bf, s, h, h0 => h h0
  | k + 1, bf, s, h, h0 => by
    simp only [hrL] at h0 ⊢
    by_cases e : isS tp n s.1 s.2.1 59 = true
    · rw [if_pos e] at h0 ⊢
      refine hrL_l9 k (bf + 1) _ (fun q => clP_l9 (h (of_decide_eq_true e).1) q) h0
    · rw [if_neg e] at h0 ⊢; exact h h0
theorem ee_0 {tp : Nat → Nat} {n f p : Nat} (h : eeP tp n f p = 0) : f = 0 ∧ kdA tp n (skP tp n p) = 0 := by
  unfold eeP at h
  split at h
  · rename_i q; exact q
  · rename_i q
    unfold flP at h
    split at h
    · omega
    · rename_i q2; exact absurd h q2
theorem hallP_l9 {tp : Nat → Nat} {n : Nat} {hl : xHl} (h : ∀ j, hl 1 j ≤ 9) (h0 : (hallP tp n hl).1 = 0) : ∀ j, (hallP tp n hl).2 1 j ≤ 9 := by
  have h1 := (ee_0 h0).1
  exact hrL_l9 40 1 _ (fun q => clP_l9 (fun j => by rw [hlClr_off hl (by decide) (by decide)]; exact h j) q) h1
theorem RRd.to {G0 G : xHp} {b tx n : Nat} {tp : Nat → Nat} {s : xPS} (h : RRd G0 G b tx n tp s) : RRs G b tx := by
  obtain ⟨w1, w2, ⟨st, w3, w4⟩, w5, w6, w7, w8, w9⟩ := h
  obtain ⟨v2, v3, v4, v5, v6, hc⟩ := w1.cell
  exact ⟨⟨_, _, w2⟩, ⟨st, w3⟩, ⟨_, _, _, _, _, _, _, hc⟩⟩
/-- a rule more -/
theorem ClsE.add {G G' : xHp} {h x lo : Nat} {rs : List (List Nat)} {ruf ima : Nat → Option Nat} {c : xCo} {im : Nat → Option xCo} {ru : Option Nat} {sp : List Nat} (hE : ClsE G h x lo rs ruf ima c im ru) (h6 : rs.length < 6) (hR : RuleAt G' h sp) (hf : ∀ a, lo ≤ a → a < h → G' a = G a) : ClsE G' (h + 2) x lo (rs ++ [sp]) (va_up ruf rs.length (some h)) ima c im ru := by
  obtain ⟨e1, e2, e3, e4, e5, e6, e7⟩ := hE
  have up_ne : ∀ i, i < rs.length → va_up ruf rs.length (some h) i = ruf i := fun i hi => by unfold va_up; rw [if_neg (by omega)]
  have rx : ∀ (v : Int32) (u : Option Nat), RuIx ruf rs.length v u → RuIx (va_up ruf rs.length (some h)) (rs ++ [sp]).length v u := by
    intro v u hu
    rcases hu with q | ⟨i, q1, q2, q3⟩
    · exact Or.inl q
    · exact Or.inr ⟨i, by simp; omega, q2, q3.trans (up_ne i q1).symm⟩
  refine ⟨e1, by omega, by simp; omega, fun k hk => ?_, rx _ _ e5, fun i hi => ?_, e7⟩
  · by_cases e : k < rs.length
    · obtain ⟨ra, sp', q1, q2, q3, q4, q5, q6⟩ := e4 k e
      exact ⟨ra, sp', (up_ne k e).trans q1, by rw [List.getElem?_append_left e]; exact q2, q3.fr (hf _ q4 (by omega)) (hf _ (by omega) (by omega)), q4, by omega, q6⟩
    · have hk' : k = rs.length := by simp at hk; omega
      subst hk'
      refine ⟨h, sp, by unfold va_up; rw [if_pos rfl], by simp, hR, e2, by omega, fun i a hi ha => ?_⟩
      rcases e6 i hi with ⟨q1, q2⟩ | ⟨ck, b, rk, q1, q2, q3, q4, q5, q6⟩
      · rw [q2] at ha; simp at ha
      · rw [q2] at ha; simp at ha; omega
  · rcases e6 i hi with q | ⟨ck, a, rk, q1, q2, q3, q4, q5, q6⟩
    · exact Or.inl q
    · exact Or.inr ⟨ck, a, rk, q1, q2, q3, by omega, q5.fr (fun b h1 h2 => hf b (by omega) (by omega)), rx _ _ q6⟩
/-- an image made, or laid anew -/
theorem ClsE.img {G G' : xHp} {h h' x lo k a : Nat} {rs : List (List Nat)} {ruf ima ima' : Nat → Option Nat} {c ck : xCo} {im : Nat → Option xCo} {ru rk : Option Nat} (hE : ClsE G h x lo rs ruf ima c im ru) (hk : k < 4) (hh : h ≤ h') (ha : ima' = ima ∧ ima k = some a ∧ lo ≤ a ∧ a + 17 ≤ h ∨ ima' = va_up ima k (some h) ∧ a = h ∧ h + 17 ≤ h') (hS : StAt G' a (x + 16) ck rk) (hr : RuIx ruf rs.length ck.2.2.1.2.1 rk) (hf : ∀ b, lo ≤ b → b < h → ¬ (a ≤ b ∧ b < a + 17) → G' b = G b) : ClsE G' h' x lo rs ruf ima' c (fun i => if i = k then some ck else im i) ru := by
  obtain ⟨e1, e2, e3, e4, e5, e6, e7⟩ := hE
  have hlo : lo ≤ a ∧ a + 17 ≤ h' := by
    rcases ha with ⟨q1, q2, q3, q4⟩ | ⟨q1, q2, q3⟩
    · exact ⟨q3, by omega⟩
    · subst q2; exact ⟨e2, q3⟩
  have up : ∀ i, i ≠ k → ima' i = ima i := by
    intro i hi
    rcases ha with ⟨q1, -⟩ | ⟨q1, -⟩
    · rw [q1]
    · rw [q1]; unfold va_up; rw [if_neg hi]
  have uk : ima' k = some a := by
    rcases ha with ⟨q1, q2, -⟩ | ⟨q1, q2, -⟩
    · rw [q1]; exact q2
    · rw [q1, q2]; unfold va_up; rw [if_pos rfl]
  have dj : ∀ i b, i < 4 → i ≠ k → ima i = some b → b + 17 ≤ a ∨ a + 17 ≤ b := by
    intro i b hi hik hb
    rcases ha with ⟨q1, q2, q3, q4⟩ | ⟨q1, q2, q3⟩
    · exact e7 i k b a hi hk hik hb q2
    · rcases e6 i hi with ⟨-, p2⟩ | ⟨-, b', -, -, p2, -, p4, -⟩
      · rw [p2] at hb; simp at hb
      · rw [p2] at hb; simp at hb; left; omega
  refine ⟨e1, by omega, e3, fun j hj => ?_, e5, fun i hi => ?_, fun i j b b' hi hj hij hb hb' => ?_⟩
  · obtain ⟨ra, sp, q1, q2, q3, q4, q5, q6⟩ := e4 j hj
    have dr : ra + 2 ≤ a ∨ a + 17 ≤ ra := by
      rcases ha with ⟨p1, p2, p3, p4⟩ | ⟨p1, p2, p3⟩
      · exact q6 k a hk p2
      · left; omega
    refine ⟨ra, sp, q1, q2, q3.fr (hf _ q4 (by omega) (by omega)) (hf _ (by omega) (by omega) (by omega)), q4, by omega, fun i b hi hb => ?_⟩
    by_cases e : i = k
    · subst e; rw [uk] at hb; simp at hb; subst hb; exact dr
    · rw [up i e] at hb; exact q6 i b hi hb
  · by_cases e : i = k
    · subst e
      exact Or.inr ⟨ck, a, rk, by simp, uk, hlo.1, hlo.2, hS, hr⟩
    · rcases e6 i hi with ⟨q1, q2⟩ | ⟨ck', b, rk', q1, q2, q3, q4, q5, q6⟩
      · exact Or.inl ⟨by simp [e, q1], (up i e).trans q2⟩
      · have := dj i b hi e q2
        exact Or.inr ⟨ck', b, rk', by simp [e, q1], (up i e).trans q2, q3, by omega, q5.fr (fun c h1 h2 => hf c (by omega) (by omega) (by omega)), q6⟩
  · by_cases ei : i = k
    · subst ei
      rw [uk] at hb; simp at hb; subst hb
      rw [up j (fun q => hij q.symm)] at hb'
      exact (dj j b' hj (fun q => hij q.symm) hb').symm
    · rw [up i ei] at hb
      by_cases ej : j = k
      · subst ej
        rw [uk] at hb'; simp at hb'; subst hb'
        exact dj i b hi ei hb
      · rw [up j ej] at hb'; exact e7 i j b b' hi hj hij hb hb'
def core0 : xCo := (((fun _ _ => 0), (fun _ => 0)), ((fun _ _ => 0), 0), (false, -1, 0), ((fun _ _ => 0), 0))
