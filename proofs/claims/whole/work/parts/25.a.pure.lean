/-! ===== when all is over ===== -/
def VisEq (hl : xHl) (r r' : xRw) : Prop := (∀ t, t < hl 0 4 → r' (21 + t) = r (21 + t) ∧ r' (28 + t) = r (28 + t)) ∧ ∀ q, q < hl 0 3 → r' (5 + q) = r (5 + q)
theorem VisEq.rf {hl : xHl} {r : xRw} : VisEq hl r r := ⟨fun _ _ => ⟨rfl, rfl⟩, fun _ _ => rfl⟩
theorem VisEq.tr {hl : xHl} {r r1 r2 : xRw} (h1 : VisEq hl r r1) (h2 : VisEq hl r1 r2) : VisEq hl r r2 := ⟨fun t ht => ⟨((h2.1 t ht).1).trans (h1.1 t ht).1, ((h2.1 t ht).2).trans (h1.1 t ht).2⟩, fun q hq => (h2.2 q hq).trans (h1.2 q hq)⟩
theorem VisEq.symm {hl : xHl} {r r1 : xRw} (h1 : VisEq hl r r1) : VisEq hl r1 r := ⟨fun t ht => ⟨(h1.1 t ht).1.symm, (h1.1 t ht).2.symm⟩, fun q hq => (h1.2 q hq).symm⟩
theorem VisEq.over {hl : xHl} {r r1 : xRw} (h1 : VisEq hl r r1) : overB hl r1 = overB hl r := by
  unfold overB
  congr 1
  apply propext
  constructor
  · intro h t ht; have := h t ht; rw [(h1.1 t ht).1] at this; exact this
  · intro h t ht; rw [(h1.1 t ht).1]; exact h t ht
theorem VisEq.saved {hl : xHl} {r r1 : xRw} (h1 : VisEq hl r r1) : savedS hl r1 = savedS hl r := by
  have : ∀ n, n ≤ hl 0 4 → savF hl r1 n = savF hl r n := by
    intro n
    induction n with
    | zero => intro _; rfl
    | succ n ih =>
      intro hn
      simp only [savF]
      rw [(h1.1 n (by omega)).1, ih (by omega)]
  exact this _ (Nat.le_refl _)
theorem VisEq.bits {hl : xHl} {r r1 : xRw} (h1 : VisEq hl r r1) (how : Int32) : bitsOf hl r1 how = bitsOf hl r how := by
  have : ∀ n, n ≤ hl 0 4 → bitsF hl r1 how n = bitsF hl r how n := by
    intro n
    induction n with
    | zero => intro _; rfl
    | succ n ih =>
      intro hn
      simp only [bitsF]
      rw [(h1.1 n (by omega)).1, ih (by omega)]
  exact this _ (Nat.le_refl _)
theorem over_md {hl : xHl} {r : xRw} (hO : HallOk hl) (h : RowOk hl r) (ho : overB hl r = true) : ∀ q, q < hl 0 3 → r (5 + q) = -1 := by
  intro q hq
  rcases h.2.1 q hq with e | ⟨t, ht, e1, e2, -⟩
  · exact e
  · have := (of_decide_eq_true ho) t ht
    rw [e2] at this
    exact absurd (by decide : (2 : Int32) < 3) this
theorem workF_free {hl : xHl} {r : xRw} (h : ∀ q, q < hl 0 3 → r (5 + q) = -1) (o3 : hl 0 3 ≤ 4) : ∀ n, n ≤ hl 0 3 → ∀ j, (j < 17 ∨ 21 ≤ j) → (workF hl r n).1 j = r j
  | 0, _, j, _ => rfl
  | n + 1, hn, j, hj => by
    have ih := workF_free h o3 n (by omega)
    show workS hl (workF hl r n).1 n j = r j
    unfold workS
    rw [if_pos (by rw [workF_5 (by omega)]; exact h n (by omega))]
    split
    · rw [upd_off (by omega)]; exact ih j hj
    · exact ih j hj
theorem over_min {hl : xHl} {rv : Option (List Nat)} {r : xRw} (hO : HallOk hl) (h : RowOk hl r) (ho : overB hl r = true) : VisEq hl r (goMin hl rv r).1 := by
  obtain ⟨o2, o3, o4, -⟩ := id hO
  have hm := over_md hO h ho
  have hw : ∀ t, t < hl 0 4 → r (21 + t) = 3 ∨ r (21 + t) = 4 := by
    intro t ht
    have h1 := (of_decide_eq_true ho) t ht
    rcases h.1 t ht with e | e | e | e | e
    · rw [e] at h1; exact absurd (by decide) h1
    · rw [e] at h1; exact absurd (by decide) h1
    · rw [e] at h1; exact absurd (by decide) h1
    · exact Or.inl e
    · exact Or.inr e
  have hc : ∀ t, t < hl 0 4 → comeGo hl r (hl 0 4) (21 + t) = r (21 + t) := by
    intro t ht
    rw [comeGo_how hl r ht]
    rcases cgV_cases hl (r 0) t (r (21 + t)) with e | ⟨e, -⟩
    · exact e
    · rcases hw t ht with z | z <;> rw [z] at e <;> rcases e with e | e <;> exact absurd e (by decide)
  have ht : takeF hl rv (comeGo hl r (hl 0 4)) (hl 0 3) = comeGo hl r (hl 0 4) := takeF_no (fun t ht => by
    rw [hc t ht]
    rcases hw t ht with z | z <;> rw [z] <;> decide) _
  have hg : ∀ j, (j < 13 ∨ 21 ≤ j) → j ≠ 0 → (goMin hl rv r).1 j = comeGo hl r (hl 0 4) j := by
    intro j hj h0
    show upd (cofF (workF hl (takeF hl rv (comeGo hl r (hl 0 4)) (hl 0 3)) (hl 0 3)).1 (hl 0 3)) 0 _ j = _
    rw [upd_off h0, cofF_off (fun q hq => by omega), ht, workF_free (fun q hq => by rw [comeGo_low hl r (by omega)]; exact hm q hq) o3 _ (Nat.le_refl _) j (by omega)]
  refine ⟨fun t ht => ⟨?_, ?_⟩, fun q hq => ?_⟩
  · rw [hg _ (by omega) (by omega)]; exact hc t ht
  · rw [hg _ (by omega) (by omega)]
    simp only [comeGo]
    rw [if_neg (by omega)]
  · rw [hg _ (by omega) (by omega), comeGo_low hl r (by omega)]
theorem over_N {hl : xHl} {rv : Option (List Nat)} {r : xRw} (hO : HallOk hl) (h : RowOk hl r) (ho : overB hl r = true) : ∀ n, VisEq hl r (goN hl rv r n)
  | 0 => VisEq.rf
  | n + 1 => by
    have ih := over_N (rv := rv) hO h ho n
    exact ih.tr (over_min hO (goN_ok hO h n) (by rw [ih.over]; exact ho))
theorem goN_add (hl : xHl) (rv : Option (List Nat)) (r : xRw) (m : Nat) : ∀ n, goN hl rv r (m + n) = goN hl rv (goN hl rv r m) n
  | 0 => rfl
  | n + 1 => by
    show (goMin hl rv (goN hl rv r (m + n))).1 = (goMin hl rv (goN hl rv (goN hl rv r m) n)).1
    rw [goN_add hl rv r m n]
/-- where goFar stops early nothing that is seen changes any more -/
theorem far_vis {hl : xHl} {rv : Option (List Nat)} {r : xRw} {m n : Nat} (hO : HallOk hl) (h : RowOk hl r) (hm : m ≤ n) (hs : m = n ∨ overB hl (goN hl rv r m) = true) : VisEq hl (goN hl rv r n) (goN hl rv r m) := by
  rcases hs with rfl | ho
  · exact VisEq.rf
  · have := over_N (rv := rv) hO (goN_ok hO h m) ho (n - m)
    rw [← goN_add, show m + (n - m) = n by omega] at this
    exact this.symm
