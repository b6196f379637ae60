/-! ===== rows behind acts ===== -/
section RIE
variable {hl : xHl} {rv : Option (List Nat)} {r : xRw} {q t s : Nat}
theorem RowI.of {m : Nat} (h1 : RowOk hl r) (hm : m ≤ 999) (hC : RowC hl r m) (hp : PLe hl r 99) (hc : CLe r) (hh : Hid hl r) (ht0 : ∀ t, hl 0 4 ≤ t → t < 7 → r (21 + t) = 0) : RowI hl r := ⟨⟨h1, ⟨m, hm, hC.1⟩, hp, fun z q a b => ((hh z).1 q a b).1, ht0, hc⟩, hh, m, hC, hm⟩
theorem RowI.go (hO : HallOk hl) (h : RowI hl r) (h9 : r 0 < nI 999) : RowI hl (goMin hl rv r).1 := by
  obtain ⟨⟨x1, -, x3, -, x5, x6⟩, hh, m, hC, hm⟩ := h
  rw [hC.1] at h9
  have hm9 := (nI_ltI (by omega) (by decide)).mp h9
  refine RowI.of (m := m + 1) (goMin_ok hO x1) (by omega) (hC.go hO x1 (by omega)) (go_p hO (by decide) x1 x3) (go_k hO x1 x6) (hh.tr hO (fun j hj => go_hid hO x1 hj)) (fun t t1 t2 => ?_)
  have o2 := hO.1
  have o3 := hO.2.1
  rw [go_hid hO x1 (by unfold vsR; omega)]
  exact x5 t t1 t2
theorem RowI.begin (hO : HallOk hl) (h : RowI hl r) (hq : q < hl 0 3) (hf : r (5 + q) = -1) (ht : t < hl 0 4) (hc : canT hl r q t = true) : RowI hl (beginR hl r q t) := by
  obtain ⟨⟨x1, -, x3, -, x5, x6⟩, hh, m, hC, hm⟩ := h
  obtain ⟨o2, o3, o4, o5, -⟩ := id hO
  have hs := (o5 t ht).1
  obtain ⟨c1, -, -⟩ := of_decide_eq_true hc
  refine RowI.of (m := m) (begin_ok hO x1 hq hf ht hc) hm ⟨by rw [begin_at (by omega) (by omega) (by omega) (by omega)]; exact hC.1, fun t' ht' h0 => ?_⟩ (begin_p hO (by decide) x3 hq ht hc) (fun q' hq' => ?_) (hh.tr hO (fun j hj => ?_)) (fun t' t1 t2 => ?_)
  · by_cases e : t' = t
    · subst e; exact hC.2 t' ht' (by rw [c1]; decide)
    · rw [begin_at (by omega) (by omega) (by omega) (by omega)] at h0
      exact hC.2 t' ht' h0
  · obtain ⟨k, k1, k2⟩ := x6 q' hq'
    exact ⟨k, k1, by rw [begin_at (by omega) (by omega) (by omega) (by omega)]; exact k2⟩
  · unfold vsR at hj
    exact begin_at (by omega) (by omega) (by omega) (by omega)
  · rw [begin_at (by omega) (by omega) (by omega) (by omega)]; exact x5 t' t1 t2
theorem lay_at {j : Nat} (h1 : j ≠ 21 + t) (h2 : j ≠ 5 + q) (h3 : j ≠ 9 + q) : layR r q t j = r j := by
  unfold layR
  rw [upd_off h3, upd_off h2, upd_off h1]
theorem lay_ok (hO : HallOk hl) (h : RowOk hl r) (hq : q < hl 0 3) (ht : t < hl 0 4) (hw : r (5 + q) = nI t) : RowOk hl (layR r q t) := by
  obtain ⟨o2, o3, o4, o5, -⟩ := hO
  obtain ⟨h1, h2, h3, h4⟩ := h
  have e5 : layR r q t (5 + q) = -1 := by unfold layR; rw [upd_off (by omega), upd_at]
  have hno : ∀ q', q' < hl 0 3 → q' ≠ q → ¬ r (5 + q') = nI t := fun q' hq' hne e => by
    have := h3 q' q hq' hq hne (e.trans hw.symm)
    rw [this] at e
    exact nI_ne1' (by omega) e
  refine ⟨fun t' ht' => ?_, fun q' hq' => ?_, fun q1 q2 a1 a2 a3 a4 => ?_, fun s hs => ?_⟩
  · by_cases e : t' = t
    · subst e
      rw [show layR r q t' (21 + t') = nI 1 by unfold layR; rw [upd_off (by omega), upd_off (by omega), upd_at]]
      exact Or.inr (Or.inl rfl)
    · rw [lay_at (by omega) (by omega) (by omega)]; exact h1 t' ht'
  · by_cases e : q' = q
    · subst e; exact Or.inl e5
    · rcases h2 q' hq' with z | ⟨t', ht', z1, z2, z3⟩
      · exact Or.inl (by rw [lay_at (by omega) (by omega) (by omega)]; exact z)
      · have htt : t' ≠ t := fun z => hno q' hq' e (by rw [z1, z])
        exact Or.inr ⟨t', ht', by rw [lay_at (by omega) (by omega) (by omega)]; exact z1, by rw [lay_at (by omega) (by omega) (by omega)]; exact z2, by rw [lay_at (by omega) (by omega) (by omega)]; exact z3⟩
  · by_cases e1 : q1 = q
    · subst e1; exact e5
    · by_cases e2 : q2 = q
      · subst e2; rw [a4]; exact e5
      · rw [lay_at (by omega) (by omega) (by omega)] at a4 ⊢
        rw [lay_at (by omega) (by omega) (by omega)] at a4
        exact h3 q1 q2 a1 a2 a3 a4
  · rw [lay_at (by omega) (by omega) (by omega)]; exact h4 s hs
theorem RowI.lay (hO : HallOk hl) (h : RowI hl r) (hq : q < hl 0 3) (hn : ¬ r (5 + q) = -1) : RowI hl (layR r q (thN (r (5 + q)))) := by
  obtain ⟨⟨x1, -, x3, -, x5, x6⟩, hh, m, hC, hm⟩ := h
  obtain ⟨o2, o3, o4, o5, -⟩ := id hO
  obtain ⟨t, ht, hw, h2, -⟩ := (x1.2.1 q hq).resolve_left hn
  rw [show thN (r (5 + q)) = t by rw [hw]; exact thN_nI (by omega)]
  refine RowI.of (m := m) (lay_ok hO x1 hq ht hw) hm ⟨by rw [lay_at (by omega) (by omega) (by omega)]; exact hC.1, fun t' ht' h0 => ?_⟩ (fun s hs => ?_) (fun q' hq' => ?_) (hh.tr hO (fun j hj => ?_)) (fun t' t1 t2 => ?_)
  · by_cases e : t' = t
    · subst e; exact hC.2 t' ht' (by rw [h2]; decide)
    · rw [lay_at (by omega) (by omega) (by omega)] at h0
      exact hC.2 t' ht' h0
  · obtain ⟨p, p1, p2⟩ := x3 s hs
    exact ⟨p, p1, by rw [lay_at (by omega) (by omega) (by omega)]; exact p2⟩
  · obtain ⟨k, k1, k2⟩ := x6 q' hq'
    exact ⟨k, k1, by rw [lay_at (by omega) (by omega) (by omega)]; exact k2⟩
  · unfold vsR at hj
    exact lay_at (by omega) (by omega) (by omega)
  · rw [lay_at (by omega) (by omega) (by omega)]; exact x5 t' t1 t2
theorem RowI.bring (hO : HallOk hl) (h : RowI hl r) (hs : s < hl 0 2) (h9 : r (1 + s) < nI 99) : RowI hl (upd r (1 + s) (r (1 + s) + nI 1)) := by
  obtain ⟨⟨x1, -, x3, -, x5, x6⟩, hh, m, hC, hm⟩ := h
  obtain ⟨o2, o3, o4, o5, -⟩ := id hO
  obtain ⟨p, p1, p2⟩ := x3 s hs
  rw [p2] at h9
  have hp9 := (nI_ltI (by omega) (by decide)).mp h9
  refine RowI.of (m := m) (part_ok hO x1 hs (fun s' hs' => ?_)) hm ⟨by rw [upd_off (by omega)]; exact hC.1, fun t' ht' h0 => ?_⟩ (fun s' hs' => ?_) (fun q' hq' => ?_) (hh.tr hO (fun j hj => ?_)) (fun t' t1 t2 => ?_)
  · obtain ⟨p', a1, a2⟩ := x3 s' hs'
    exact ⟨p', by omega, a2⟩
  · rw [upd_off (by omega)] at h0
    exact hC.2 t' ht' h0
  · by_cases e : s' = s
    · subst e; exact ⟨p + 1, by omega, by rw [upd_at, p2, nI_add]⟩
    · obtain ⟨p', a1, a2⟩ := x3 s' hs'
      exact ⟨p', a1, by rw [upd_off (by omega)]; exact a2⟩
  · obtain ⟨k, k1, k2⟩ := x6 q' hq'
    exact ⟨k, k1, by rw [upd_off (by omega)]; exact k2⟩
  · unfold vsR at hj
    exact upd_off (by omega)
  · rw [upd_off (by omega)]; exact x5 t' t1 t2
theorem RowI.coffee {k : Nat} (hO : HallOk hl) (h : RowI hl r) (hq : q < hl 0 3) (hk : k ≤ 60) : RowI hl (upd r (13 + q) (nI k)) := by
  obtain ⟨⟨x1, -, x3, -, x5, x6⟩, hh, m, hC, hm⟩ := h
  obtain ⟨o2, o3, o4, o5, -⟩ := id hO
  refine RowI.of (m := m) (row_ok_of hO x1 (fun j h1 h2 => upd_off (by omega))) hm ⟨by rw [upd_off (by omega)]; exact hC.1, fun t' ht' h0 => ?_⟩ (fun s' hs' => ?_) (fun q' hq' => ?_) (hh.tr hO (fun j hj => ?_)) (fun t' t1 t2 => ?_)
  · rw [upd_off (by omega)] at h0
    exact hC.2 t' ht' h0
  · obtain ⟨p', a1, a2⟩ := x3 s' hs'
    exact ⟨p', a1, by rw [upd_off (by omega)]; exact a2⟩
  · by_cases e : q' = q
    · subst e; exact ⟨k, hk, upd_at⟩
    · obtain ⟨k', k1, k2⟩ := x6 q' hq'
      exact ⟨k', k1, by rw [upd_off (by omega)]; exact k2⟩
  · unfold vsR at hj
    exact upd_off (by omega)
  · rw [upd_off (by omega)]; exact x5 t' t1 t2
theorem clear_n {j : Nat} (h : ¬ (1 ≤ j ∧ j < 9) ∧ j < 28) : clearR hl j = 0 := by
  unfold clearR rngF va_cpy
  rw [if_neg (by omega), if_neg (by omega), if_neg (by omega)]; rfl
theorem clear_m (hq : q < 4) : clearR hl (5 + q) = -1 := by
  unfold clearR rngF va_cpy
  rw [if_neg (by omega), if_pos (by omega)]
theorem clear_w (ht : t < 7) : clearR hl (28 + t) = -1 := by
  unfold clearR rngF
  rw [if_pos (by omega)]
theorem clear_p (hs : s < 4) : clearR hl (1 + s) = nI (hl 2 s) := by
  unfold clearR rngF va_cpy
  rw [if_neg (by omega), if_neg (by omega), if_pos (by omega)]
  show nI (hl 2 (0 + (1 + s - 1))) = nI (hl 2 s)
  congr 2
  omega
theorem RowI.clear (hO : HallOk hl) (hp : ∀ s, s < hl 0 2 → hl 2 s ≤ 9) : RowI hl (clearR hl) := by
  obtain ⟨o2, o3, o4, o5, -⟩ := id hO
  refine RowI.of (m := 0) (clear_ok hO (fun s hs => by have := hp s hs; omega)) (by decide) ⟨clear_n (by omega), fun t' ht' h0 => absurd (clear_n (by omega)) h0⟩ (fun s' hs' => ⟨hl 2 s', by have := hp s' hs'; omega, clear_p (by omega)⟩) (fun q' hq' => ⟨0, by decide, clear_n (by omega)⟩) (fun _ => ⟨fun q' q1 q2 => ⟨clear_m q2, clear_n (by omega), clear_n (by omega), clear_n (by omega)⟩, fun t' t1 t2 => ⟨clear_n (by omega), clear_w t2⟩⟩) (fun t' t1 t2 => clear_n (by omega))
end RIE
