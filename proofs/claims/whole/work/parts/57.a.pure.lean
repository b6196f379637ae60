/-! ===== the reference: all is kept, all is laid back ===== -/
theorem xH_eqv {K : xG} {h : Nat} {G G' : xHp} {H : Heap} (hH : xH K h G H) (he : ∀ a, G' a = G a ∨ ∃ t n f g, G a = some (eI t n f) ∧ G' a = some (eI t n g) ∧ ∀ j, j < n → f j = g j) : xH K h G' H := by
  refine ⟨hH.1, hH.2.1, fun b e hb => ?_⟩
  rcases he b with e1 | ⟨t, n, f, g, e1, e2, e3⟩
  · rw [e1] at hb; exact hH.2.2 b e hb
  · rw [e2] at hb
    cases hb
    obtain ⟨h1, h2⟩ := hH.2.2 b _ e1
    refine ⟨h1, ?_⟩
    have h3 : H[b]? = some (vp_cell (K.2.2.2.1 t) (n, .inl f)) := h2
    show H[b]? = some (vp_cell (K.2.2.2.1 t) (n, .inl g))
    rw [h3, vp_cell_cong e3]
theorem x_eqv {K : xG} {M : xM} {d cb sb h : Nat} {G G' : xHp} {pc : Nat} {ls : List (Nat × Value)} {st : List Value} {Q : xPost} (he : ∀ a, G' a = G a ∨ ∃ t n f g, G a = some (eI t n f) ∧ G' a = some (eI t n g) ∧ ∀ j, j < n → f j = g j) (k : xV K M d cb sb h G' pc ls st Q) : xV K M d cb sb h G pc ls st Q := by
  intro p l e s m args below meth c H locs cells slots lc MC MS C hH hS hL h1 h2
  exact k p l e s m args below meth c H locs cells slots lc MC MS C (xH_eqv hH he) hS hL h1 h2
theorem x_gen {K : xG} {M : xM} {d cb sb h : Nat} {G : xHp} {pc : Nat} {ls : List (Nat × Value)} {st : List Value} {Q : xPost} {P : xHp → Prop} (hp : P G) (k : ∀ G', P G' → xV K M d cb sb h G' pc ls st Q) : xV K M d cb sb h G pc ls st Q := k G hp
theorem RW.to_md {G0 G : xHp} {y : Nat} {hl : xHl} {r : xRw} {sc : Nat × Nat × Int32} {A X : Nat → Nat → Int32} {F : Nat → Int32} {wa sa : Nat → Int64} (h : RW G0 G y X F wa sa) (hb : ∀ i j, hl i j < 1000000) (he : ∀ k, 1 ≤ k → k ≤ 45 → k ≠ 35 → k ≠ 36 → ∀ j, j < mln k → X k j = ovr A hl r sc k j) : ∃ G', MW G0 G' y hl r sc A F wa sa ∧ ∀ a, G' a = G a ∨ ∃ t n f g, G a = some (eI t n f) ∧ G' a = some (eI t n g) ∧ ∀ j, j < n → f j = g j := by
  obtain ⟨h1, h2, h3⟩ := h
  refine ⟨fun a => if y < a ∧ a ≤ y + 45 then some (mcell (a - y) (ovr A hl r sc) wa sa) else G a, ⟨?_, fun k a b => ?_, fun a ha => ?_, hb⟩, fun a => ?_⟩
  · show (if y < y ∧ y ≤ y + 45 then _ else G y) = _
    rw [if_neg (by omega)]; exact h1
  · show (if y < y + k ∧ y + k ≤ y + 45 then _ else G (y + k)) = _
    rw [if_pos (by omega), show y + k - y = k by omega]
  · show (if y < a ∧ a ≤ y + 45 then _ else G a) = _
    rw [if_neg (by omega)]; exact h3 a ha
  · by_cases q : y < a ∧ a ≤ y + 45
    · have ea : a = y + (a - y) := by omega
      have hG : G a = some (mcell (a - y) X wa sa) := by
        have := h2 (a - y) (by omega) (by omega)
        rw [← ea] at this; exact this
      show (if y < a ∧ a ≤ y + 45 then some (mcell (a - y) (ovr A hl r sc) wa sa) else G a) = G a ∨ _
      by_cases q1 : a - y = 35
      · left; rw [if_pos q, hG, q1]; rfl
      · by_cases q2 : a - y = 36
        · left; rw [if_pos q, hG, q2]; rfl
        · right
          refine ⟨mty (a - y), mln (a - y), X (a - y), ovr A hl r sc (a - y), ?_, ?_, he (a - y) (by omega) (by omega) q1 q2⟩
          · rw [hG]; unfold mcell; rw [if_neg q1, if_neg q2]
          · show (if y < a ∧ a ≤ y + 45 then some (mcell (a - y) (ovr A hl r sc) wa sa) else G a) = _
            rw [if_pos q]; unfold mcell; rw [if_neg q1, if_neg q2]
    · left
      show (if y < a ∧ a ≤ y + 45 then _ else G a) = _
      rw [if_neg q]
theorem setA_up {A : Nat → Nat → Int32} {k : Nat} {f g : Nat → Int32} : setA (setA A k f) k g = setA A k g := by
  funext i; unfold setA
  by_cases e : i = k
  · rw [if_pos e, if_pos e]
  · rw [if_neg e, if_neg e, if_neg e]
theorem setA_at {A : Nat → Nat → Int32} {k : Nat} {f : Nat → Int32} : setA A k f k = f := if_pos rfl
theorem setA_ne {A : Nat → Nat → Int32} {i k : Nat} {f : Nat → Int32} (h : i ≠ k) : setA A k f i = A i := if_neg h
/-- the arrays by the order in which they are carried -/
def ord : Nat → Nat
  | 0 => 1
  | 1 => 3
  | 2 => 5
  | 3 => 6
  | 4 => 7
  | 5 => 8
  | 6 => 13
  | 7 => 14
  | 8 => 10
  | 9 => 38
  | 10 => 2
  | 11 => 4
  | 12 => 9
  | 13 => 11
  | 14 => 12
  | 15 => 15
  | 16 => 16
  | 17 => 17
  | 18 => 18
  | _ => 37
def ofs : Nat → Nat
  | 0 => 0
  | n + 1 => ofs n + mln (ord n)
def svI (X : Nat → Nat → Int32) (p : Nat) : Nat → Nat → Int32
  | 0 => X 44
  | n + 1 => layF (svI X p n) (X (ord n)) (p + ofs n) (mln (ord n))
def ldX (X : Nat → Nat → Int32) (p : Nat) : Nat → Nat → Nat → Int32
  | 0 => X
  | n + 1 => setA (ldX X p n) (ord n) (ldF (X 44) (X (ord n)) (p + ofs n) (mln (ord n)))
theorem svI_out {X : Nat → Nat → Int32} {p j : Nat} : ∀ n, (j < p ∨ p + ofs n ≤ j) → svI X p n j = X 44 j
  | 0, _ => rfl
  | n + 1, h => by
    have e : ofs (n + 1) = ofs n + mln (ord n) := rfl
    rw [e] at h
    show layF (svI X p n) (X (ord n)) (p + ofs n) (mln (ord n)) j = _
    unfold layF
    rw [if_neg (by omega)]
    exact svI_out n (by omega)
theorem svI_in {X : Nat → Nat → Int32} {p i j : Nat} (hj : j < mln (ord i)) : ∀ n, i < n → svI X p n (p + ofs i + j) = X (ord i) j
  | 0, h => absurd h (by omega)
  | n + 1, h => by
    show layF (svI X p n) (X (ord n)) (p + ofs n) (mln (ord n)) _ = _
    unfold layF
    by_cases e : i = n
    · subst e
      rw [if_pos (by omega), show p + ofs i + j - (p + ofs i) = j by omega]
    · have hm : ∀ m, i < m → ofs i + mln (ord i) ≤ ofs m := by
        intro m
        induction m with
        | zero => intro h; omega
        | succ m ih =>
          intro h
          have e2 : ofs (m + 1) = ofs m + mln (ord m) := rfl
          by_cases q : i = m
          · subst q; omega
          · have := ih (by omega); omega
      have := hm n (by omega)
      rw [if_neg (by omega)]
      exact svI_in hj n (by omega)
theorem ord_inj {i n : Nat} (hi : i < n) (hn : n < 20) : ord i ≠ ord n := by
  have : ∀ n : Fin 20, ∀ i : Fin 20, i.1 < n.1 → ord i.1 ≠ ord n.1 := by decide
  exact this ⟨n, hn⟩ ⟨i, by omega⟩ hi
theorem ldX_in {X : Nat → Nat → Int32} {p i : Nat} : ∀ n, n ≤ 20 → i < n → ldX X p n (ord i) = ldF (X 44) (X (ord i)) (p + ofs i) (mln (ord i))
  | 0, _, h => absurd h (by omega)
  | n + 1, hn, h => by
    show setA (ldX X p n) (ord n) _ (ord i) = _
    by_cases e : i = n
    · subst e; exact setA_at
    · rw [setA_ne (ord_inj (by omega) (by omega))]
      exact ldX_in n (by omega) (by omega)
theorem ldX_out {X : Nat → Nat → Int32} {p k : Nat} : ∀ n, (∀ i, i < n → k ≠ ord i) → ldX X p n k = X k
  | 0, _ => rfl
  | n + 1, h => by
    show setA (ldX X p n) (ord n) _ k = _
    rw [setA_ne (h n (by omega))]
    exact ldX_out n (fun i hi => h i (by omega))
abbrev rwQ (G0 : xHp) (h y : Nat) (X : Nat → Nat → Int32) (F : Nat → Int32) (wa sa : Nat → Int64) : xPost := xEx (fun G' => RW G0 G' y X F wa sa) (fun _ => none) (fun _ => h) (fun G' => G')
