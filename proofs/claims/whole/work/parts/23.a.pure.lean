/-! ===== rows stay well made ===== -/
theorem upd_at {f : Nat → Int32} {k : Nat} {x : Int32} : upd f k x k = x := by simp [upd]
theorem upd_off {f : Nat → Int32} {k j : Nat} {x : Int32} (h : j ≠ k) : upd f k x j = f j := by simp [upd, h]
theorem nl0 : nI 0 = 0 := rfl
theorem nl1 : nI 1 = 1 := rfl
theorem nl2 : nI 2 = 2 := rfl
theorem nl3 : nI 3 = 3 := rfl
theorem nl4 : nI 4 = 4 := rfl
theorem thN_nI {t : Nat} (h : t < 2 ^ 31) : thN (nI t) = t := by simp [thN, nI_toInt h]
/-- a mender's place: free, or at a thing that is in work, with minutes to go -/
def mdW (hl : xHl) (r : xRw) (q : Nat) : Prop := r (5 + q) = -1 ∨ ∃ t, t < hl 0 4 ∧ r (5 + q) = nI t ∧ r (21 + t) = 2 ∧ ∃ g, 1 ≤ g ∧ g < 1000 ∧ r (9 + q) = nI g
def howW (v : Int32) : Prop := v = 0 ∨ v = 1 ∨ v = 2 ∨ v = 3 ∨ v = 4
def RowOk (hl : xHl) (r : xRw) : Prop := (∀ t, t < hl 0 4 → howW (r (21 + t))) ∧ (∀ q, q < hl 0 3 → mdW hl r q) ∧ (∀ q q', q < hl 0 3 → q' < hl 0 3 → q ≠ q' → r (5 + q) = r (5 + q') → r (5 + q) = -1) ∧ (∀ s, s < hl 0 2 → ∃ p, p < 200 ∧ r (1 + s) = nI p)
theorem cgV_cases (hl : xHl) (mi : Int32) (t : Nat) (v : Int32) : cgV hl mi t v = v ∨ ((v = 0 ∨ v = 1) ∧ (cgV hl mi t v = 4 ∨ cgV hl mi t v = 1)) := by
  unfold cgV
  by_cases h : (if v = 0 ∧ nI (hl 5 t) = mi then (1 : Int32) else v) = 1
  · rw [if_pos h]
    right
    refine ⟨?_, ?_⟩
    · by_cases h2 : v = 0 ∧ nI (hl 5 t) = mi
      · exact Or.inl h2.1
      · rw [if_neg h2] at h; exact Or.inr h
    · split
      · exact Or.inl rfl
      · exact Or.inr rfl
  · rw [if_neg h]; exact Or.inl rfl
theorem comeGo_how (hl : xHl) (r : xRw) {n t : Nat} (h : t < n) : comeGo hl r n (21 + t) = cgV hl (r 0) t (r (21 + t)) := by
  simp only [comeGo]
  rw [if_pos (by omega), show 21 + t - 21 = t by omega]
theorem comeGo_low (hl : xHl) (r : xRw) {n j : Nat} (h : j < 21) : comeGo hl r n j = r j := by
  simp only [comeGo]
  rw [if_neg (by omega)]
theorem comeGo_ok {hl : xHl} {r : xRw} (hO : HallOk hl) (h : RowOk hl r) : RowOk hl (comeGo hl r (hl 0 4)) := by
  obtain ⟨o2, o3, o4, -⟩ := hO
  obtain ⟨h1, h2, h3, h4⟩ := h
  refine ⟨fun t ht => ?_, fun q hq => ?_, fun q q' hq hq' hn he => ?_, fun s hs => ?_⟩
  · rw [comeGo_how hl r ht]
    rcases cgV_cases hl (r 0) t (r (21 + t)) with e | ⟨-, e | e⟩
    · rw [e]; exact h1 t ht
    · rw [e]; simp [howW]
    · rw [e]; simp [howW]
  · unfold mdW
    rw [comeGo_low hl r (j := 5 + q) (by omega), comeGo_low hl r (j := 9 + q) (by omega)]
    rcases h2 q hq with e | ⟨t, ht, e1, e2, e3⟩
    · exact Or.inl e
    · refine Or.inr ⟨t, ht, e1, ?_, e3⟩
      rw [comeGo_how hl r ht]
      rcases cgV_cases hl (r 0) t (r (21 + t)) with e | ⟨e | e, -⟩
      · rw [e]; exact e2
      · rw [e2] at e; exact absurd e (by decide)
      · rw [e2] at e; exact absurd e (by decide)
  · rw [comeGo_low hl r (j := 5 + q) (by omega)] at he ⊢
    rw [comeGo_low hl r (j := 5 + q') (by omega)] at he
    exact h3 q q' hq hq' hn he
  · rw [comeGo_low hl r (j := 1 + s) (by omega)]
    exact h4 s hs
theorem chF_some {p : Nat → Bool} {key : Nat → Int64} : ∀ {n t : Nat}, (chF p key n).1 = some t → t < n ∧ p t = true
  | 0, t, h => by simp [chF] at h
  | n + 1, t, h => by
    simp only [chF] at h
    split at h
    · rename_i hc
      simp at h
      subst h
      exact ⟨by omega, hc.1⟩
    · have := chF_some h
      exact ⟨by omega, this.2⟩
theorem choice_some {hl : xHl} {rv : Option (List Nat)} {r : xRw} {q t : Nat} (h : choice hl rv r q = some t) : t < hl 0 4 ∧ canT hl r q t = true := chF_some h
theorem begin_ok {hl : xHl} {r : xRw} {q t : Nat} (hO : HallOk hl) (h : RowOk hl r) (hq : q < hl 0 3) (hf : r (5 + q) = -1) (ht : t < hl 0 4) (hc : canT hl r q t = true) : RowOk hl (beginR hl r q t) := by
  obtain ⟨o2, o3, o4, o5, o6, o7, -⟩ := hO
  obtain ⟨h1, h2, h3, h4⟩ := h
  obtain ⟨c1, c2, c3⟩ := of_decide_eq_true hc
  obtain ⟨p1, p2, -, -⟩ := o5 t ht
  have e21 : ∀ t', t' < hl 0 4 → beginR hl r q t (21 + t') = if t' = t then nI 2 else r (21 + t') := by
    intro t' ht'
    unfold beginR
    rw [upd_off (by omega), upd_off (by omega)]
    by_cases e : t' = t
    · subst e; rw [upd_at, if_pos rfl]
    · rw [upd_off (by omega), upd_off (by omega), if_neg e]
  have e5 : ∀ q', q' < 4 → beginR hl r q t (5 + q') = if q' = q then nI t else r (5 + q') := by
    intro q' hq'
    unfold beginR
    rw [upd_off (by omega)]
    by_cases e : q' = q
    · subst e; rw [upd_at, if_pos rfl]
    · rw [upd_off (by omega), upd_off (by omega), upd_off (by omega), if_neg e]
  have e9 : ∀ q', q' < 4 → beginR hl r q t (9 + q') = if q' = q then nI (effS hl q t) else r (9 + q') := by
    intro q' hq'
    unfold beginR
    by_cases e : q' = q
    · subst e; rw [upd_at, if_pos rfl]
    · rw [upd_off (by omega), upd_off (by omega), upd_off (by omega), upd_off (by omega), if_neg e]
  have hno : ∀ q', q' < hl 0 3 → ¬ r (5 + q') = nI t := by
    intro q' hq' e
    rcases h2 q' hq' with e1 | ⟨t', ht', e1, e2, -⟩
    · rw [e1] at e; exact nI_ne1' (by omega) e
    · rw [e1] at e
      have := (nI_eq (by omega) (by omega)).mp e
      subst this
      rw [e2] at c1
      exact absurd c1 (by decide)
  refine ⟨fun t' ht' => ?_, fun q' hq' => ?_, fun q1 q2 hq1 hq2 hn he => ?_, fun s hs => ?_⟩
  · rw [e21 t' ht']
    split
    · simp [howW, nl2]
    · exact h1 t' ht'
  · unfold mdW
    rw [e5 q' (by omega), e9 q' (by omega)]
    by_cases e : q' = q
    · rw [if_pos e, if_pos e]
      right
      refine ⟨t, ht, rfl, by rw [e21 t ht, if_pos rfl]; rfl, effS hl q t, ?_, ?_, rfl⟩
      · unfold effS; omega
      · unfold effS
        have := o6 (q * 4 + hl 4 t) (by omega)
        have := o7 (hl 4 t) p1
        omega
    · rw [if_neg e, if_neg e]
      rcases h2 q' hq' with e1 | ⟨t', ht', e1, e2, e3⟩
      · exact Or.inl e1
      · refine Or.inr ⟨t', ht', e1, ?_, e3⟩
        rw [e21 t' ht', if_neg (fun z => hno q' hq' (by rw [e1, z]))]
        exact e2
  · rw [e5 q1 (by omega), e5 q2 (by omega)] at he
    rw [e5 q1 (by omega)]
    by_cases e1 : q1 = q
    · by_cases e2 : q2 = q
      · omega
      · rw [if_pos e1, if_neg e2] at he
        exact absurd he.symm (hno q2 hq2)
    · by_cases e2 : q2 = q
      · rw [if_neg e1, if_pos e2] at he
        exact absurd he (hno q1 hq1)
      · rw [if_neg e1, if_neg e2] at he
        rw [if_neg e1]
        exact h3 q1 q2 hq1 hq2 hn he
  · obtain ⟨pp, hp1, hp2⟩ := h4 s hs
    have : beginR hl r q t (1 + s) = if s = hl 4 t then r (1 + s) - nI (hl 7 t) else r (1 + s) := by
      unfold beginR
      rw [upd_off (by omega), upd_off (by omega), upd_off (by omega)]
      by_cases e : s = hl 4 t
      · rw [e, upd_at, if_pos rfl]
      · rw [upd_off (by omega), if_neg e]
    rw [this]
    by_cases e : s = hl 4 t
    · rw [if_pos e, hp2]
      have hle : hl 7 t ≤ pp := by
        rcases c3 with z | z
        · omega
        · rw [← e, hp2] at z
          have := (nI_ltI (a := 0) (by decide) (by omega)).mp z
          omega
      exact ⟨pp - hl 7 t, by omega, pk_sub hle⟩
    · rw [if_neg e]; exact ⟨pp, hp1, hp2⟩
theorem takeS_ok {hl : xHl} {rv : Option (List Nat)} {r : xRw} {q : Nat} (hO : HallOk hl) (h : RowOk hl r) (hq : q < hl 0 3) : RowOk hl (takeS hl rv r q) := by
  unfold takeS
  split
  · rename_i hc
    cases hch : choice hl rv r q with
    | none => exact h
    | some t => exact begin_ok hO h hq hc.1 (choice_some hch).1 (choice_some hch).2
  · exact h
theorem takeF_ok {hl : xHl} {rv : Option (List Nat)} {r : xRw} (hO : HallOk hl) (h : RowOk hl r) : ∀ n, n ≤ hl 0 3 → RowOk hl (takeF hl rv r n)
  | 0, _ => h
  | n + 1, hn => takeS_ok hO (takeF_ok hO h n (by omega)) (by omega)
/-- nobody takes where nothing waits -/
theorem chF_none {p : Nat → Bool} {key : Nat → Int64} : ∀ {n : Nat}, (∀ t, t < n → p t = false) → (chF p key n).1 = none
  | 0, _ => rfl
  | n + 1, h => by
    simp only [chF]
    rw [if_neg (by rw [h n (by omega)]; simp)]
    exact chF_none (fun t ht => h t (by omega))
theorem takeF_no {hl : xHl} {rv : Option (List Nat)} {r : xRw} (h : ∀ t, t < hl 0 4 → ¬ r (21 + t) = 1) : ∀ n, takeF hl rv r n = r
  | 0 => rfl
  | n + 1 => by
    show takeS hl rv (takeF hl rv r n) n = r
    rw [takeF_no h n]
    unfold takeS
    have : choice hl rv r n = none := chF_none (fun t ht => decide_eq_false (fun z => h t ht z.1))
    rw [this]
    split <;> rfl
theorem awF_no {hl : xHl} {r : xRw} : ∀ {n : Nat}, awF hl r n = false → ∀ t, t < n → ¬ comeGo hl r (hl 0 4) (21 + t) = 1 ∨ hl 0 4 ≤ t
  | 0, _, t, ht => by omega
  | n + 1, h, t, ht => by
    rw [awF_s, Bool.or_eq_false_iff] at h
    by_cases e : t = n
    · subst e
      by_cases h2 : t < hl 0 4
      · left
        rw [comeGo_how hl r h2]
        exact of_decide_eq_false h.2
      · right; omega
    · exact awF_no h.1 t (by omega)
