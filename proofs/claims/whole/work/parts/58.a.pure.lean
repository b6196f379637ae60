/-! ===== the reference: kept, and laid back ===== -/
theorem setA_comm {A : Nat → Nat → Int32} {i k : Nat} {f g : Nat → Int32} (h : i ≠ k) : setA (setA A i f) k g = setA (setA A k g) i f := by
  funext q; unfold setA
  by_cases e : q = i
  · by_cases e2 : q = k
    · exact absurd (e.symm.trans e2) h
    · rw [if_neg e2, if_pos e, if_pos e]
  · by_cases e2 : q = k
    · rw [if_pos e2, if_neg e, if_pos e2]
    · rw [if_neg e2, if_neg e, if_neg e, if_neg e2]
theorem ord_38 {n : Nat} (hn : n < 9) : ord n ≠ 38 := by
  have : ∀ n : Fin 9, ord n.1 ≠ 38 := by decide
  exact this ⟨n, hn⟩
theorem ldX_set {X : Nat → Nat → Int32} {p : Nat} {g : Nat → Int32} : ∀ n, n ≤ 9 → ldX (setA X 38 g) p n = setA (ldX X p n) 38 g
  | 0, _ => rfl
  | n + 1, hn => by
    show setA (ldX (setA X 38 g) p n) (ord n) (ldF (setA X 38 g 44) (setA X 38 g (ord n)) (p + ofs n) (mln (ord n))) = setA (setA (ldX X p n) (ord n) (ldF (X 44) (X (ord n)) (p + ofs n) (mln (ord n)))) 38 g
    rw [ldX_set n (by omega), setA_comm (ord_38 (by omega)), setA_ne (i := 44) (by decide), setA_ne (ord_38 (by omega))]
theorem svI_set {X : Nat → Nat → Int32} {p : Nat} {g : Nat → Int32} : ∀ n, n ≤ 9 → svI (setA X 38 g) p n = svI X p n
  | 0, _ => rfl
  | n + 1, hn => by
    show layF (svI (setA X 38 g) p n) (setA X 38 g (ord n)) (p + ofs n) (mln (ord n)) = layF (svI X p n) (X (ord n)) (p + ofs n) (mln (ord n))
    rw [svI_set n (by omega), setA_ne (ord_38 (by omega))]
def Kept (im : Nat → Int32) (hl : xHl) (r : xRw) (sc : Nat × Nat × Int32) : Prop := ∀ i j, i < 9 → j < mln (ord i) → im (3600 + ofs i + j) = ovr (fun _ _ => 0) hl r sc (ord i) j
theorem ovr_any {A A' : Nat → Nat → Int32} {hl : xHl} {r : xRw} {sc : Nat × Nat × Int32} {i : Nat} (h : i < 9) : ovr A hl r sc (ord i) = ovr A' hl r sc (ord i) := by
  match i, h with
  | 0, _ => rfl
  | 1, _ => rfl
  | 2, _ => rfl
  | 3, _ => rfl
  | 4, _ => rfl
  | 5, _ => rfl
  | 6, _ => rfl
  | 7, _ => rfl
  | 8, _ => rfl
theorem Kept_sv {A : Nat → Nat → Int32} {hl : xHl} {r : xRw} {sc : Nat × Nat × Int32} : Kept (svI (ovr A hl r sc) 3600 9) hl r sc := by
  intro i j hi hj
  rw [svI_in hj 9 hi, ovr_any hi]
theorem ovr_set {A : Nat → Nat → Int32} {hl : xHl} {r : xRw} {sc : Nat × Nat × Int32} {k : Nat} {f : Nat → Int32} (hk : (15 ≤ k ∧ k ≤ 17) ∨ (19 ≤ k ∧ k ≤ 34) ∨ (37 ≤ k ∧ k ≤ 45)) : ovr (setA A k f) hl r sc = setA (ovr A hl r sc) k f := by
  funext i
  by_cases q : i = k
  · subst q
    rw [setA_at]
    unfold ovr
    simp only [show i ≠ 1 by omega, show i ≠ 2 by omega, show i ≠ 3 by omega, show i ≠ 4 by omega, show i ≠ 5 by omega, show i ≠ 6 by omega, show i ≠ 7 by omega, show i ≠ 8 by omega, show i ≠ 9 by omega, show i ≠ 10 by omega, show i ≠ 11 by omega, show i ≠ 12 by omega, show i ≠ 13 by omega, show i ≠ 14 by omega, show i ≠ 18 by omega, if_false]
    exact setA_at
  · rw [setA_ne q]
    unfold ovr
    rw [setA_ne q]
theorem RW.md' {G0 G : xHp} {y : Nat} {hl : xHl} {r : xRw} {sc : Nat × Nat × Int32} {A : Nat → Nat → Int32} {F : Nat → Int32} {wa sa : Nat → Int64} (h : RW G0 G y (ovr A hl r sc) F wa sa) (hb : ∀ i j, hl i j < 1000000) : MW G0 G y hl r sc A F wa sa := ⟨h.1, h.2.1, h.2.2, hb⟩
/-- what is laid back of the hall: its numbers and when things come -/
def lbH (hl hl2 : xHl) : xHl := fun i => if i = 0 ∨ i = 5 then hl i else hl2 i
theorem lb_eq {A : Nat → Nat → Int32} {hl hl2 : xHl} {r r2 : xRw} {sc sc2 : Nat × Nat × Int32} (hk : Kept (A 44) hl r sc) : ∀ k, 1 ≤ k → k ≤ 45 → k ≠ 35 → k ≠ 36 → ∀ j, j < mln k → ldX (ovr A hl2 r2 sc2) 3600 9 k j = ovr A (lbH hl hl2) r sc k j := by
  intro k h1 h2 h3 h4 j hj
  by_cases q : ∃ i, i < 9 ∧ k = ord i
  · obtain ⟨i, hi, e⟩ := q
    subst e
    rw [ldX_in 9 (by decide) hi]
    unfold ldF
    rw [if_pos hj]
    show A 44 (3600 + ofs i + j) = _
    rw [hk i j hi hj]
    match i, hi with
    | 0, _ => rfl
    | 1, _ => rfl
    | 2, _ => rfl
    | 3, _ => rfl
    | 4, _ => rfl
    | 5, _ => rfl
    | 6, _ => rfl
    | 7, _ => rfl
    | 8, _ => rfl
  · have qq : ∀ i, i < 9 → k ≠ ord i := fun i hi e => q ⟨i, hi, e⟩
    rw [ldX_out 9 qq]
    have q0 : k ≠ 1 := qq 0 (by decide)
    have q1 : k ≠ 3 := qq 1 (by decide)
    have q2 : k ≠ 5 := qq 2 (by decide)
    have q3 : k ≠ 6 := qq 3 (by decide)
    have q4 : k ≠ 7 := qq 4 (by decide)
    have q5 : k ≠ 8 := qq 5 (by decide)
    have q6 : k ≠ 13 := qq 6 (by decide)
    have q7 : k ≠ 14 := qq 7 (by decide)
    have q8 : k ≠ 10 := qq 8 (by decide)
    have e : ovr A hl2 r2 sc2 k = ovr A (lbH hl hl2) r sc k := by
      unfold ovr
      exact ite_c (fun e => absurd e q0) (ite_c (fun _ => rfl) (ite_c (fun e => absurd e q1) (ite_c (fun _ => rfl) (ite_c (fun e => absurd e q2) (ite_c (fun e => absurd e q3) (ite_c (fun e => absurd e q4) (ite_c (fun e => absurd e q5) (ite_c (fun _ => rfl) (ite_c (fun e => absurd e q8) (ite_c (fun _ => rfl) (ite_c (fun _ => rfl) (ite_c (fun e => absurd e q6) (ite_c (fun e => absurd e q7) (ite_c (fun _ => rfl) rfl))))))))))))))
    rw [e]
theorem lbH_ok {hl hl2 : xHl} (h1 : ∀ i j, hl i j < 1000000) (h2 : ∀ i j, hl2 i j < 1000000) : ∀ i j, lbH hl hl2 i j < 1000000 := by
  intro i j; unfold lbH
  by_cases e : i = 0 ∨ i = 5
  · rw [if_pos e]; exact h1 i j
  · rw [if_neg e]; exact h2 i j
theorem lbH_same {hl hl2 : xHl} (h : ∀ i, i ≠ 0 → i ≠ 5 → hl2 i = hl i) : lbH hl hl2 = hl := by
  funext i; unfold lbH
  by_cases e : i = 0 ∨ i = 5
  · rw [if_pos e]
  · rw [if_neg e]; exact h i (fun z => e (Or.inl z)) (fun z => e (Or.inr z))
