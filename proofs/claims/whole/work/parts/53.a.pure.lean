/-! ===== the reference: rules worked out ===== -/
def kR (c : Nat) : Nat := if c ≤ 3 then c else if c ≤ 6 then c + 9 else if c ≤ 11 then c - 3 else if c = 12 then 10 else if c = 13 then 11 else 9
def jnQ (k : Nat) (a b : Int64) : Int64 :=
  if k = 2 then a + b else if k = 3 then a - b else if k = 13 then a * b else if k = 14 then (if b = 0 then 0 else a / b) else if k = 15 then (if b = 0 then 0 else a - a / b * b)
  else if k = 4 then (if a < b then 1 else 0) else if k = 5 then (if a ≤ b then 1 else 0) else if k = 6 then (if a = b then 1 else 0) else if k = 7 then (if b ≤ a then 1 else 0) else if k = 8 then (if b < a then 1 else 0)
  else if k = 10 then a &&& b else a ||| b
theorem jnQ_R : ∀ c, 2 ≤ c → c ≤ 13 → ∀ a b : Int64, jnQ (kR c) a b = jn c a b
  | 2, _, _, a, b => rfl
  | 3, _, _, a, b => rfl
  | 4, _, _, a, b => rfl
  | 5, _, _, a, b => rfl
  | 6, _, _, a, b => rfl
  | 7, _, _, a, b => rfl
  | 8, _, _, a, b => rfl
  | 9, _, _, a, b => rfl
  | 10, _, _, a, b => rfl
  | 11, _, _, a, b => rfl
  | 12, _, _, a, b => rfl
  | 13, _, _, a, b => rfl
  | 0, h, _, _, _ => absurd h (by decide)
  | 1, h, _, _, _ => absurd h (by decide)
  | c + 14, _, h, _, _ => absurd h (by omega)
theorem kR_c : ∀ c, c ≤ 14 → kR c < 16 ∧ (kR c = 0 ↔ c = 0) ∧ (kR c = 1 ↔ c = 1) ∧ (kR c = 9 ↔ c = 14) := by decide
theorem jnQ_out {k : Nat} {a b : Int64} (h : (k : Int) < 2 ∨ 15 < (k : Int)) : jnQ k a b = a ||| b := by
  unfold jnQ
  rw [if_neg (by omega), if_neg (by omega), if_neg (by omega), if_neg (by omega), if_neg (by omega), if_neg (by omega), if_neg (by omega), if_neg (by omega), if_neg (by omega), if_neg (by omega), if_neg (by omega)]
def evR (wd : Nat → Int64) : List Nat → List Int64 → Option (List Int64)
  | [], stk => some stk
  | s :: ss, stk =>
    if s / 1048576 = 0 then evR wd ss ((nI (s % 1048576)).toInt64 :: stk)
    else if s / 1048576 = 1 then evR wd ss (wd (s % 1048576) :: stk)
    else if s / 1048576 = 14 then (match stk with
      | a :: r => evR wd ss ((1 - a) :: r)
      | [] => none)
    else (match stk with
      | b :: a :: r => evR wd ss (jn (s / 1048576) a b :: r)
      | _ => none)
theorem evR_n {wd : Nat → Int64} {s : Nat} {ss : List Nat} {stk : List Int64} (h : s / 1048576 = 0) : evR wd (s :: ss) stk = evR wd ss ((nI (s % 1048576)).toInt64 :: stk) := by simp only [evR]; rw [if_pos h]
theorem evR_w {wd : Nat → Int64} {s : Nat} {ss : List Nat} {stk : List Int64} (h : s / 1048576 = 1) : evR wd (s :: ss) stk = evR wd ss (wd (s % 1048576) :: stk) := by simp only [evR]; rw [if_neg (by omega), if_pos h]
theorem evR_not {wd : Nat → Int64} {s : Nat} {ss : List Nat} {stk : List Int64} {o : List Int64} (h : s / 1048576 = 14) (he : evR wd (s :: ss) stk = some o) : ∃ a r, stk = a :: r ∧ evR wd ss ((1 - a) :: r) = some o := by
  simp only [evR] at he
  rw [if_neg (by omega), if_neg (by omega), if_pos h] at he
  cases stk with
  | nil => simp at he
  | cons a r => exact ⟨a, r, rfl, he⟩
theorem evR_j {wd : Nat → Int64} {s : Nat} {ss : List Nat} {stk : List Int64} {o : List Int64} (h0 : s / 1048576 ≠ 0) (h1 : s / 1048576 ≠ 1) (h : s / 1048576 ≠ 14) (he : evR wd (s :: ss) stk = some o) : ∃ b a r, stk = b :: a :: r ∧ evR wd ss (jn (s / 1048576) a b :: r) = some o := by
  simp only [evR] at he
  rw [if_neg h0, if_neg h1, if_neg h] at he
  cases stk with
  | nil => simp at he
  | cons b l =>
    cases l with
    | nil => simp at he
    | cons a r => exact ⟨b, a, r, rfl, he⟩
/-- the entries of a rule -/
def RefE (A : Nat → Nat → Int32) (w : Nat) (E : List Nat) : Prop := E.length ≤ 300 ∧ ∀ j, j < E.length → A 28 (300 * w + j) = nI (kR (E.getD j 0 / 1048576)) ∧ A 29 (300 * w + j) = nI (E.getD j 0 % 1048576) ∧ E.getD j 0 / 1048576 ≤ 14 ∧ (E.getD j 0 / 1048576 = 1 → E.getD j 0 % 1048576 < 12)
def fstR : Option (List Int64) → Int64
  | some (v :: _) => v
  | _ => 0
/-- a rule's clauses: a sum and a test each, as entries from a place on -/
def RefC (A : Nat → Nat → Int32) (w : Nat) : Nat → Nat → List (List Nat × List Nat) → Prop
  | _, _, [] => True
  | n, e, c :: cs => A 31 (12 * w + n) = nI e ∧ A 32 (12 * w + n) = nI (e + c.1.length) ∧ A 33 (12 * w + n) = nI (e + c.1.length + c.2.length) ∧ RefC A w (n + 1) (e + c.1.length + c.2.length) cs
def flatE : List (List Nat × List Nat) → List Nat
  | [] => []
  | c :: cs => c.1 ++ (c.2 ++ flatE cs)
def RefR (A : Nat → Nat → Int32) (w : Nat) (cs : List (List Nat × List Nat)) : Prop := w < 6 ∧ cs.length ≤ 12 ∧ A 30 w = nI cs.length ∧ RefE A w (flatE cs) ∧ RefC A w 0 0 cs
/-- each clause can be worked out: one value of its sum, 0 or 1 of its test -/
def WfC (wd : Nat → Int64) (c : List Nat × List Nat) : Prop := (∃ v, evR wd c.1 [] = some [v]) ∧ (c.2 = [] ∨ ∃ v, evR wd c.2 [] = some [v] ∧ (v = 0 ∨ v = 1))
def wantF (wd : Nat → Int64) : List (List Nat × List Nat) → Int64
  | [] => 0
  | c :: cs => if c.2 = [] ∨ fstR (evR wd c.2 []) = 1 then fstR (evR wd c.1 []) else wantF wd cs
theorem want_y {wd : Nat → Int64} {c : List Nat × List Nat} {cs : List (List Nat × List Nat)} (h : c.2 = [] ∨ fstR (evR wd c.2 []) = 1) : wantF wd (c :: cs) = fstR (evR wd c.1 []) := if_pos h
theorem want_n {wd : Nat → Int64} {c : List Nat × List Nat} {cs : List (List Nat × List Nat)} (h : ¬ (c.2 = [] ∨ fstR (evR wd c.2 []) = 1)) : wantF wd (c :: cs) = wantF wd cs := if_neg h
theorem seg_get {E : List Nat} {k u s0 : Nat} {ss : List Nat} (h : (E.drop k).take u = s0 :: ss) : E.getD k 0 = s0 ∧ (E.drop (k + 1)).take (u - 1) = ss ∧ k < E.length ∧ 0 < u := by
  cases u with
  | zero => simp at h
  | succ u =>
    rcases hd : E.drop k with _ | ⟨c, cs⟩
    · rw [hd] at h; simp at h
    · rw [hd] at h
      simp at h
      obtain ⟨g1, g2, g3⟩ := drop_get hd
      exact ⟨g2.trans h.1, by rw [g3]; simpa using h.2, g1, by omega⟩
