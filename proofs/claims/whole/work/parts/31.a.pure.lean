/-! ===== rules sifted; the state ===== -/
theorem RulesAt.get {G : xHp} {x k : Nat} {rs : List (List Nat)} {ruf : Nat → Option Nat} (h : RulesAt G x rs ruf) (hk : k < rs.length) : ∃ ra, ruf k = some ra ∧ RuleIn G (some ra) (rvJ rs (k + 1)) (x + 51) := by
  have h1 := h.2.2 k hk
  rcases h1 with ⟨h2, h3⟩ | ⟨ra, sp, h2, h3, h4⟩
  · rw [List.getElem?_eq_getElem hk] at h3; simp at h3
  · exact ⟨ra, h2, Or.inr ⟨ra, sp, rfl, h3, h4⟩⟩
theorem cntF_le (p : Nat → Bool) : ∀ n, cntF p n ≤ n
  | 0 => Nat.le_refl 0
  | n + 1 => by
    have := cntF_le p n
    simp only [cntF]
    split <;> omega
theorem alF_le {hl : xHl} {rs : List (List Nat)} {p : Nat → Bool} {n : Nat} (hO : HallOk hl) (hp2 : ∀ s, s < hl 0 2 → hl 2 s < 200) : ∀ j i, alF hl rs p n j i ≤ j
  | 0, i => Nat.le_refl 0
  | j + 1, i => by
    simp only [alF]
    split
    · exact (noteF_le (alF_le hO hp2 j) (hl 0 4) i (fun t ht => (how_nI ((goN_ok hO (clear_ok hO hp2) (n + 1)).1 t ht)).2)).1
    · exact Nat.le_succ_of_le (alF_le hO hp2 j i)
/-- all that an image keeps: the hall and the row; the books; told, the rule in force, x; the acts' rows, the last one first -/
abbrev xCo : Type := (xHl × xRw) × ((Nat → Nat → Nat) × Nat) × (Bool × Int32 × Nat) × ((Nat → xRw) × Nat)
abbrev stO (b : Nat) (t : Bool) (fo : Int32) (xx nx ac : Nat) : xE := eO 10 [.ref (b + 7), .ref (b + 1), .int (bI t), .int fo, .int (nI xx), .ref (b + 6), .int (nI nx), .int (nI ac)]
def rgOk (rows : Nat → Int32) (nx : Nat) (L : Nat → xRw) (ac : Nat) : Prop := nx < 20 ∧ ac ≤ 20 ∧ ∀ i, i < ac → ∀ j, j < 35 → rows (((nx + 19 - i) % 20) * 35 + j) = L i j
def StAt (G : xHp) (b jd : Nat) (c : xCo) (ru : Option Nat) : Prop := ∃ (rows : Nat → Int32) (nx fi : Nat) (fs : Int32) (al : Nat → Nat), G b = some (stO b c.2.2.1.1 c.2.2.1.2.1 c.2.2.1.2.2 nx c.2.2.2.2) ∧ BooksAt G (b + 1) c.2.1.1 c.2.1.2 fi fs al ∧ G (b + 6) = some (eI 0 700 rows) ∧ DayAt G (b + 7) c.1.1 c.1.2 jd ru ∧ rgOk rows nx c.2.2.2.1 c.2.2.2.2
theorem StAt.fr {G G' : xHp} {b jd : Nat} {c : xCo} {ru : Option Nat} (h : StAt G b jd c ru) (hf : ∀ a, b ≤ a → a < b + 17 → G' a = G a) : StAt G' b jd c ru := by
  obtain ⟨rows, nx, fi, fs, al, h1, h2, h3, h4, h5⟩ := h
  exact ⟨rows, nx, fi, fs, al, (hf _ (by omega) (by omega)).trans h1, h2.fr (fun a b c => hf a (by omega) (by omega)), (hf _ (by omega) (by omega)).trans h3, h4.fr (fun a b c => hf a (by omega) (by omega)), h5⟩
def pushL (r : xRw) (L : Nat → xRw) : Nat → xRw
  | 0 => r
  | i + 1 => L i
def popL (L : Nat → xRw) : Nat → xRw := fun i => L (i + 1)
theorem rg_push {rows : Nat → Int32} {nx ac : Nat} {L : Nat → xRw} {r : xRw} (h : rgOk rows nx L ac) : rgOk (va_cpy r rows 0 (nx * 35) 35) ((nx + 1) % 20) (pushL r L) (min (ac + 1) 20) := by
  obtain ⟨h1, h2, h3⟩ := h
  refine ⟨Nat.mod_lt _ (by decide), by omega, fun i hi j hj => ?_⟩
  cases i with
  | zero =>
    have e : ((nx + 1) % 20 + 19 - 0) % 20 = nx := by omega
    rw [e, pk_cpy_in (by omega) (by omega)]
    show r _ = r _
    congr 1; omega
  | succ i =>
    have e : ((nx + 1) % 20 + 19 - (i + 1)) % 20 = (nx + 19 - i) % 20 := by omega
    have e2 : (nx + 19 - i) % 20 ≠ nx := by omega
    rw [e, pk_cpy_out (by omega)]
    exact h3 i (by omega) j hj
theorem rg_pop {rows : Nat → Int32} {nx ac : Nat} {L : Nat → xRw} (h : rgOk rows nx L ac) (h0 : 0 < ac) : rgOk rows ((nx + 20 - 1) % 20) (popL L) (ac - 1) := by
  obtain ⟨h1, h2, h3⟩ := h
  refine ⟨Nat.mod_lt _ (by decide), by omega, fun i hi j hj => ?_⟩
  have e : ((nx + 20 - 1) % 20 + 19 - i) % 20 = (nx + 19 - (i + 1)) % 20 := by omega
  rw [e]
  exact h3 (i + 1) (by omega) j hj
theorem rg_top {rows : Nat → Int32} {nx ac : Nat} {L : Nat → xRw} {r : xRw} (h : rgOk rows nx L ac) (h0 : 0 < ac) : ∀ j, j < 35 → va_cpy rows r ((nx + 20 - 1) % 20 * 35) 0 35 j = L 0 j := by
  obtain ⟨h1, h2, h3⟩ := h
  intro j hj
  rw [pk_cpy_in (by omega) (by omega)]
  have := h3 0 h0 j hj
  rw [show (nx + 19 - 0) % 20 = (nx + 20 - 1) % 20 by omega] at this
  rw [← this]
  simp
theorem mnI_nI {a b : Nat} (ha : a < 2 ^ 31) (hb : b < 2 ^ 31) : mnI (nI a) (nI b) = nI (min a b) := by
  unfold mnI
  by_cases h : b < a
  · rw [if_pos (nI_lt h ha), Nat.min_eq_right (by omega)]
  · rw [if_neg (nI_nlt (by omega) hb), Nat.min_eq_left (by omega)]
theorem rg_mono {rows : Nat → Int32} {nx ac : Nat} {L : Nat → xRw} (h : rgOk rows nx L ac) : rgOk rows nx L 0 := ⟨h.1, by omega, fun i hi => absurd hi (by omega)⟩
abbrev stQ (G : xHp) (h b jd : Nat) (c : xCo) (ru : Option Nat) : xPost := xEx (fun G' => StAt G' b jd c ru ∧ Fr G G' b 17) (fun _ => none) (fun _ => h) (fun G' => G')
theorem fstF_k {p : Nat → Bool} {j : Nat} (h : ¬ (p j = true ∧ cntF p j = 0)) : fstF p (j + 1) = fstF p j := if_neg h
theorem fstF_n {p : Nat → Bool} {j : Nat} (h : p j = true ∧ cntF p j = 0) : fstF p (j + 1) = nI j + (-1) := if_pos h
theorem alF_k {hl : xHl} {rs : List (List Nat)} {p : Nat → Bool} {n j : Nat} (h : p j = false) : alF hl rs p n (j + 1) = alF hl rs p n j := if_neg (by rw [h]; decide)
theorem alF_n {hl : xHl} {rs : List (List Nat)} {p : Nat → Bool} {n j : Nat} (h : p j = true) : alF hl rs p n (j + 1) = noteF (goN hl (rvJ rs j) (clearR hl) (n + 1)) (alF hl rs p n j) (hl 0 4) := if_pos h
