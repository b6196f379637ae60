/-! ===== the books ===== -/
def BooksAt (G : xHp) (b : Nat) (bk : Nat → Nat → Nat) (bn fi : Nat) (fs : Int32) (al : Nat → Nat) : Prop := G b = some (eO 1 [.ref (b + 1), .ref (b + 2), .ref (b + 3), .int (nI bn), .int (nI fi), .int fs, .ref (b + 4)]) ∧ G (b + 1) = some (eI 0 10 (nF (bk 0))) ∧ G (b + 2) = some (eI 0 10 (nF (bk 1))) ∧ G (b + 3) = some (eI 0 10 (nF (bk 2))) ∧ G (b + 4) = some (eI 0 35 (nF al))
theorem BooksAt.fr {G G' : xHp} {b : Nat} {bk : Nat → Nat → Nat} {bn fi : Nat} {fs : Int32} {al : Nat → Nat} (h : BooksAt G b bk bn fi fs al) (hf : ∀ a, b ≤ a → a < b + 5 → G' a = G a) : BooksAt G' b bk bn fi fs al :=
  ⟨(hf _ (by omega) (by omega)).trans h.1, (hf _ (by omega) (by omega)).trans h.2.1, (hf _ (by omega) (by omega)).trans h.2.2.1, (hf _ (by omega) (by omega)).trans h.2.2.2.1, (hf _ (by omega) (by omega)).trans h.2.2.2.2⟩
theorem BooksAt.off {G : xHp} {b : Nat} {bk : Nat → Nat → Nat} {bn fi : Nat} {fs : Int32} {al : Nat → Nat} (h : BooksAt G b bk bn fi fs al) {a : Nat} {e : xE} (ha : a < b ∨ b + 5 ≤ a) : BooksAt (xup G a e) b bk bn fi fs al := h.fr (fun c h1 h2 => xup_ne (by omega))
theorem BooksAt.obj {G : xHp} {b : Nat} {bk : Nat → Nat → Nat} {bn fi : Nat} {fs : Int32} {al : Nat → Nat} (h : BooksAt G b bk bn fi fs al) (bn' fi' : Nat) (fs' : Int32) : BooksAt (xup G b (eO 1 [.ref (b + 1), .ref (b + 2), .ref (b + 3), .int (nI bn'), .int (nI fi'), .int fs', .ref (b + 4)])) b bk bn' fi' fs' al :=
  ⟨xup_eq, xup_of (by omega) h.2.1, xup_of (by omega) h.2.2.1, xup_of (by omega) h.2.2.2.1, xup_of (by omega) h.2.2.2.2⟩
theorem BooksAt.alike {G : xHp} {b : Nat} {bk : Nat → Nat → Nat} {bn fi : Nat} {fs : Int32} {al : Nat → Nat} (h : BooksAt G b bk bn fi fs al) (al' : Nat → Nat) : BooksAt (xup G (b + 4) (eI 0 35 (nF al'))) b bk bn fi fs al' :=
  ⟨xup_of (by omega) h.1, xup_of (by omega) h.2.1, xup_of (by omega) h.2.2.1, xup_of (by omega) h.2.2.2.1, xup_eq⟩
def BkOk (hl : xHl) (bk : Nat → Nat → Nat) (bn : Nat) : Prop := bn ≤ 10 ∧ ∀ k, k < bn → bk 0 k < 400 ∧ bk 1 k < hl 0 4 ∧ bk 2 k ≤ 4
/-- a book is so by a rule -/
def okB (hl : xHl) (rv : Option (List Nat)) (bk : Nat → Nat → Nat) (k : Nat) : Prop := goN hl rv (clearR hl) (bk 0 k + 1) (21 + bk 1 k) = nI (bk 2 k)
noncomputable def fitB (hl : xHl) (bk : Nat → Nat → Nat) (bn : Nat) (rv : Option (List Nat)) : Bool := @decide (∀ k, k < bn → okB hl rv bk k) (Classical.propDecidable _)
theorem fitB_t {hl : xHl} {rv : Option (List Nat)} {bk : Nat → Nat → Nat} {bn : Nat} (h : ∀ k, k < bn → okB hl rv bk k) : fitB hl bk bn rv = true := @decide_eq_true _ (Classical.propDecidable _) h
theorem fitB_f {hl : xHl} {rv : Option (List Nat)} {bk : Nat → Nat → Nat} {bn : Nat} {k : Nat} (hk : k < bn) (h : ¬ okB hl rv bk k) : fitB hl bk bn rv = false := @decide_eq_false _ (Classical.propDecidable _) (fun q => h (q k hk))
def lsF (bk : Nat → Nat → Nat) : Nat → Int32
  | 0 => -1
  | k + 1 => mxI (lsF bk k) (nI (bk 0 k))
theorem mxI_l (a b : Int32) : a ≤ mxI a b := by
  unfold mxI; split
  · rename_i h; exact Int32.le_of_lt h
  · exact Int32.le_refl a
theorem mxI_r (a b : Int32) : b ≤ mxI a b := by
  unfold mxI; split
  · exact Int32.le_refl b
  · rename_i h; exact Int32.not_lt.mp h
theorem mxI_nI {a b : Nat} (ha : a < 2 ^ 31) (hb : b < 2 ^ 31) : mxI (nI a) (nI b) = nI (max a b) := by
  unfold mxI
  by_cases h : a < b
  · rw [if_pos (nI_lt h hb), Nat.max_eq_right (by omega)]
  · rw [if_neg (nI_nlt (by omega) ha), Nat.max_eq_left (by omega)]
theorem lsF_ge (bk : Nat → Nat → Nat) : ∀ {m k : Nat}, k < m → nI (bk 0 k) ≤ lsF bk m
  | 0, k, h => absurd h (by omega)
  | m + 1, k, h => by
    simp only [lsF]
    by_cases e : k = m
    · subst e; exact mxI_r _ _
    · exact Int32.le_trans (lsF_ge bk (show k < m by omega)) (mxI_l _ _)
theorem lsF_lt {bk : Nat → Nat → Nat} : ∀ {m : Nat}, (∀ k, k < m → bk 0 k < 400) → lsF bk m < nI 400
  | 0, _ => by show (-1 : Int32) < nI 400; decide
  | m + 1, h => by
    simp only [lsF, mxI]
    split
    · exact nI_lt (h m (by omega)) (by decide)
    · exact lsF_lt (fun k hk => h k (by omega))
theorem how_nI {v : Int32} (h : howW v) : v = nI (thN v) ∧ thN v < 5 := by
  rcases h with h | h | h | h | h <;> subst h <;> exact ⟨by decide, by decide⟩
def noteF (r : xRw) (al : Nat → Nat) : Nat → Nat → Nat
  | 0 => al
  | t + 1 => fun j => if j = t * 5 + thN (r (21 + t)) then noteF r al t j + 1 else noteF r al t j
theorem noteF_s (r : xRw) (al : Nat → Nat) (t : Nat) : upd (nF (noteF r al t)) (t * 5 + thN (r (21 + t))) (nI (noteF r al t (t * 5 + thN (r (21 + t))) + 1)) = nF (noteF r al (t + 1)) := by
  rw [upd_nF]
  unfold nF
  funext j
  simp only [noteF]
  by_cases e : j = t * 5 + thN (r (21 + t))
  · subst e; simp
  · simp [e]
theorem noteF_cong {r r' : xRw} (al : Nat → Nat) : ∀ n, (∀ t, t < n → r' (21 + t) = r (21 + t)) → noteF r' al n = noteF r al n
  | 0, _ => rfl
  | n + 1, h => by
    simp only [noteF]
    rw [noteF_cong al n (fun t ht => h t (by omega)), h n (by omega)]
theorem noteF_le {r : xRw} {al : Nat → Nat} {c : Nat} (h : ∀ j, al j ≤ c) : ∀ t j, (∀ i, i < t → thN (r (21 + i)) < 5) → noteF r al t j ≤ c + 1 ∧ (t * 5 ≤ j → noteF r al t j ≤ c)
  | 0, j, _ => ⟨Nat.le_succ_of_le (h j), fun _ => h j⟩
  | t + 1, j, ho => by
    obtain ⟨i1, i2⟩ := noteF_le h t j (fun i hi => ho i (by omega))
    have := ho t (by omega)
    simp only [noteF]
    split
    · rename_i e
      exact ⟨Nat.succ_le_succ (i2 (by omega)), fun z => by omega⟩
    · exact ⟨i1, fun z => i2 (by omega)⟩
def mxF (al : Nat → Nat) (t : Nat) : Nat → Nat
  | 0 => 0
  | k + 1 => max (mxF al t k) (al (t * 5 + k))
theorem mxF_lt {al : Nat → Nat} {t : Nat} (h : ∀ j, al j < 1000) : ∀ k, mxF al t k < 1000
  | 0 => by show 0 < 1000; omega
  | k + 1 => by
    have := mxF_lt (t := t) h k
    have := h (t * 5 + k)
    simp only [mxF]
    omega
def ptF (al : Nat → Nat) : Nat → Option Nat
  | 0 => none
  | t + 1 => match ptF al t with
    | none => some t
    | some b => if mxF al t 5 < mxF al b 5 then some t else some b
theorem ptF_lt {al : Nat → Nat} : ∀ {n b : Nat}, ptF al n = some b → b < n
  | 0, b, h => by simp [ptF] at h
  | n + 1, b, h => by
    simp only [ptF] at h
    split at h
    · simp at h; omega
    · rename_i b' hb
      have := ptF_lt hb
      split at h
      · simp at h; omega
      · simp at h; omega
theorem ptF_n {al : Nat → Nat} {t : Nat} (h : ptF al t = none) : ptF al (t + 1) = some t := by simp only [ptF, h]
theorem ptF_a {al : Nat → Nat} {t b : Nat} (h : ptF al t = some b) (h2 : mxF al t 5 < mxF al b 5) : ptF al (t + 1) = some t := by simp only [ptF, h, if_pos h2]
theorem ptF_b {al : Nat → Nat} {t b : Nat} (h : ptF al t = some b) (h2 : ¬ mxF al t 5 < mxF al b 5) : ptF al (t + 1) = some b := by simp only [ptF, h, if_neg h2]
/-- rules by their numbers, none first -/
def rvJ (rs : List (List Nat)) (j : Nat) : Option (List Nat) := match j with
  | 0 => none
  | i + 1 => rs[i]?
def fstF (p : Nat → Bool) : Nat → Int32
  | 0 => -2
  | j + 1 => if p j = true ∧ cntF p j = 0 then nI j + (-1) else fstF p j
def alF (hl : xHl) (rs : List (List Nat)) (p : Nat → Bool) (n : Nat) : Nat → Nat → Nat
  | 0 => fun _ => 0
  | j + 1 => if p j = true then noteF (goN hl (rvJ rs j) (clearR hl) (n + 1)) (alF hl rs p n j) (hl 0 4) else alF hl rs p n j
def RulesAt (G : xHp) (x : Nat) (rs : List (List Nat)) (ruf : Nat → Option Nat) : Prop := G (x + 15) = some (eQ 0 6 ruf) ∧ rs.length ≤ 6 ∧ ∀ k, k < rs.length → RuleIn G (ruf k) rs[k]? (x + 51)
theorem RulesAt.fr {G G' : xHp} {x : Nat} {rs : List (List Nat)} {ruf : Nat → Option Nat} (h : RulesAt G x rs ruf) (h0 : G' (x + 15) = G (x + 15)) (hf : ∀ a, x + 51 ≤ a → G' a = G a) : RulesAt G' x rs ruf := ⟨h0.trans h.1, h.2.1, fun k hk => (h.2.2 k hk).fr hf⟩
theorem TrW.both {G0 G : xHp} {x : Nat} {hk : xHl} {rk : xRw} {rt : Option Nat} {ch mo : Int32} (hT : TrW G0 G x hk rk rt ch mo) {a : Nat} (e : xE) (ha : a < x + 16 ∨ (x + 19 ≤ a ∧ a < x + 36) ∨ x + 47 ≤ a) : TrW (xup G0 a e) (xup G a e) x hk rk rt ch mo := by
  obtain ⟨t1, t2, ⟨wd, sk, t3⟩, t4⟩ := hT
  refine ⟨xup_of (by omega) t1, t2.off (by omega), ⟨wd, sk, t3.fr (fun a b c => xup_ne (by omega))⟩, fun c hc => ?_⟩
  by_cases e : c = a
  · subst e; rw [xup_eq, xup_eq]
  · rw [xup_ne e, xup_ne e]; exact t4 c hc
theorem TrW.books {G0 G : xHp} {x : Nat} {hk : xHl} {rk : xRw} {rt : Option Nat} {ch mo : Int32} {bk : Nat → Nat → Nat} {bn fi : Nat} {fs : Int32} {al : Nat → Nat} (hT : TrW G0 G x hk rk rt ch mo) (h : BooksAt G0 (x + 20) bk bn fi fs al) : BooksAt G (x + 20) bk bn fi fs al := h.fr (fun a h1 h2 => hT.2.2.2 a (by omega))
