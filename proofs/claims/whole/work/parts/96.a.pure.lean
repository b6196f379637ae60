/-! ===== the reference: books ===== -/
def FKp (hl : xHl) (rv : Option (List Nat)) (bk : Nat → Nat → Nat) (bn n j : Nat) : Prop := ∀ k, k < bn → (bk 0 k < n ∨ (bk 0 k = n ∧ k < j)) → okB hl rv bk k
noncomputable def fitK (hl : xHl) (rv : Option (List Nat)) (bk : Nat → Nat → Nat) (bn n j : Nat) : Bool := @decide (FKp hl rv bk bn n j) (Classical.propDecidable _)
section FKL
variable {hl : xHl} {rv : Option (List Nat)} {bk : Nat → Nat → Nat} {bn n j : Nat}
theorem fk_t (h : FKp hl rv bk bn n j) : fitK hl rv bk bn n j = true := @decide_eq_true _ (Classical.propDecidable _) h
theorem fk_n (h : ¬ FKp hl rv bk bn n j) : fitK hl rv bk bn n j = false := @decide_eq_false _ (Classical.propDecidable _) h
theorem fk_p (h : fitK hl rv bk bn n j = true) : FKp hl rv bk bn n j := @of_decide_eq_true _ (Classical.propDecidable _) h
theorem fk_q (h : fitK hl rv bk bn n j = false) : ¬ FKp hl rv bk bn n j := @of_decide_eq_false _ (Classical.propDecidable _) h
theorem fk_f (h : fitK hl rv bk bn n j = false) : fitK hl rv bk bn n (j + 1) = false := fk_n (fun q => fk_q h (fun k hk z => q k hk (by omega)))
theorem fk_ne (h : fitK hl rv bk bn n j = true) (hne : ¬ bk 0 j = n) : fitK hl rv bk bn n (j + 1) = true := fk_t (fun k hk z => by
  by_cases e : k = j
  · subst e; exact fk_p h k hk (by omega)
  · exact fk_p h k hk (by omega))
theorem fk_ok (h : fitK hl rv bk bn n j = true) (ho : okB hl rv bk j) : fitK hl rv bk bn n (j + 1) = true := fk_t (fun k hk z => by
  by_cases e : k = j
  · subst e; exact ho
  · exact fk_p h k hk (by omega))
theorem fk_no (hj : j < bn) (he : bk 0 j = n) (ho : ¬ okB hl rv bk j) : fitK hl rv bk bn n (j + 1) = false := fk_n (fun q => ho (q j hj (by omega)))
theorem fk_end : fitK hl rv bk bn n bn = fitK hl rv bk bn (n + 1) 0 := by
  rcases h : fitK hl rv bk bn (n + 1) 0 with _ | _
  · exact fk_n (fun q => fk_q h (fun k hk z => q k hk (by omega)))
  · exact fk_t (fun k hk z => fk_p h k hk (by omega))
theorem fk_400 (hb : ∀ k, k < bn → bk 0 k < 400) : fitK hl rv bk bn 400 0 = fitB hl bk bn rv := by
  rcases h : fitK hl rv bk bn 400 0 with _ | _
  · have h1 := fk_q h
    have h2 : ¬ ∀ k, k < bn → okB hl rv bk k := fun q => h1 (fun k hk _ => q k hk)
    exact (@decide_eq_false _ (Classical.propDecidable _) h2).symm
  · exact (fitB_t (fun k hk => fk_p h k hk (Or.inl (hb k hk)))).symm
theorem fk_0 : fitK hl rv bk bn 0 0 = true := fk_t (fun k hk z => by omega)
end FKL
/-- the books, as the reference has them -/
def BkR (A : Nat → Nat → Int32) (bk : Nat → Nat → Nat) (bn : Nat) : Prop := ∀ k, k < bn → A 15 k = nI (bk 0 k) ∧ A 16 k = nI (bk 1 k) ∧ A 17 k = nI (bk 2 k)
theorem BkR.cong {A A' : Nat → Nat → Int32} {bk : Nat → Nat → Nat} {bn : Nat} (h : BkR A bk bn) (h1 : A' 15 = A 15) (h2 : A' 16 = A 16) (h3 : A' 17 = A 17) : BkR A' bk bn := fun k hk => by rw [h1, h2, h3]; exact h k hk
def ShR (f : Nat → Int32) (hl : xHl) (rv : Option (List Nat)) (w : Int32) (n : Nat) : Prop := ∀ n0, n0 < n → w = nI n0 → ∀ t, t < 7 → f t = goN hl rv (clearR hl) (n0 + 1) (21 + t)
theorem sh_ne {f : Nat → Int32} {hl : xHl} {rv : Option (List Nat)} {w : Int32} {n : Nat} (h : ShR f hl rv w n) (hw : ¬ nI n = w) : ShR f hl rv w (n + 1) := fun n0 h0 hw0 t ht => by
  by_cases e : n0 = n
  · subst e; exact absurd hw0.symm hw
  · exact h n0 (by omega) hw0 t ht
theorem sh_eq {g : Nat → Int32} {hl : xHl} {rv : Option (List Nat)} {w : Int32} {n : Nat} (hn : n < 1000) (hw : nI n = w) : ShR (cpF (blk (goN hl rv (clearR hl) (n + 1)) 21 7) g 7) hl rv w (n + 1) := fun n0 h0 hw0 t ht => by
  have e : n0 = n := (nI_eq (by omega) (by omega)).mp (hw0.symm.trans hw.symm)
  subst e
  unfold cpF
  rw [if_pos ht, blk_at ht]
theorem j_ge {j rc : Nat} (hj : j < 100) (hr : rc < 100) : nI rc ≤ nI j + (-1) ↔ rc + 1 ≤ j := by
  cases j with
  | zero =>
    constructor
    · intro h
      have h2 := Int32.le_iff_toInt_le.mp h
      rw [nI_toInt (by omega)] at h2
      have e : (nI 0 + (-1) : Int32).toInt = -1 := by decide
      omega
    · intro h; omega
  | succ j =>
    rw [pk_m1]
    constructor
    · intro h
      have h2 := Int32.le_iff_toInt_le.mp h
      rw [nI_toInt (by omega), nI_toInt (by omega)] at h2
      omega
    · intro h; exact nI_le (by omega) (by omega)
theorem j_s (j : Nat) : nI j + (-1) + (1) = nI (j + 1) + (-1) := by
  rw [pk_m1, Int32.add_assoc]
  exact Int32.add_zero (nI j)
theorem cnt_le {p : Nat → Bool} : ∀ n, cntF p n ≤ n := cntF_le p
def AlR (g : Nat → Int32) (al : Nat → Nat) : Prop := ∀ j, j < 35 → g j = nI (al j)
theorem AlR.up {g : Nat → Int32} {r : xRw} {al : Nat → Nat} {t : Nat} (h : AlR g (noteF r al t)) : AlR (upd g (t * 5 + thN (r (21 + t))) (nI (noteF r al t (t * 5 + thN (r (21 + t))) + 1))) (noteF r al (t + 1)) := by
  intro j hj
  unfold upd
  simp only [noteF]
  by_cases e : j = t * 5 + thN (r (21 + t))
  · subst e; simp
  · simp [e]; exact h j hj
theorem mx_s {al : Nat → Nat} {t k : Nat} : mxF al t (k + 1) = max (mxF al t k) (al (t * 5 + k)) := rfl
theorem alF_lt {hl : xHl} {rs : List (List Nat)} {p : Nat → Bool} {n : Nat} (hO : HallOk hl) (hp2 : ∀ s, s < hl 0 2 → hl 2 s < 200) (j : Nat) (hj : j ≤ 100) : ∀ i, alF hl rs p n j i < 1000 := fun i => by
  have := alF_le (rs := rs) (p := p) (n := n) hO hp2 j i
  omega
theorem note_lt {hl : xHl} {rs : List (List Nat)} {p : Nat → Bool} {n : Nat} {rv : Option (List Nat)} (hO : HallOk hl) (hp2 : ∀ s, s < hl 0 2 → hl 2 s < 200) (j t : Nat) (hj : j ≤ 100) (ht : t ≤ hl 0 4) : ∀ i, noteF (goN hl rv (clearR hl) (n + 1)) (alF hl rs p n j) t i < 1000 := fun i => by
  have h1 := (noteF_le (r := goN hl rv (clearR hl) (n + 1)) (alF_le (rs := rs) (p := p) (n := n) hO hp2 j) t i (fun q hq => (how_nI ((goN_ok hO (clear_ok hO hp2) (n + 1)).1 q (by omega))).2)).1
  omega
