/-! ===== the reference: a minute ===== -/
def rg (f : Nat → Int32 → Int32) (r : xRw) (n : Nat) : xRw := fun j => if 21 ≤ j ∧ j < 21 + n then f (j - 21) (r j) else r j
theorem rg_0 (f : Nat → Int32 → Int32) (r : xRw) : rg f r 0 = r := by
  funext j; unfold rg; rw [if_neg (by omega)]
theorem rg_at (f : Nat → Int32 → Int32) (r : xRw) (t : Nat) : rg f r t (21 + t) = r (21 + t) := by unfold rg; rw [if_neg (by omega)]
theorem rg_lo (f : Nat → Int32 → Int32) (r : xRw) (n : Nat) {j : Nat} (h : j < 21) : rg f r n j = r j := by unfold rg; rw [if_neg (by omega)]
theorem rg_s (f : Nat → Int32 → Int32) (r : xRw) (t : Nat) : upd (rg f r t) (21 + t) (f t (r (21 + t))) = rg f r (t + 1) := by
  funext j
  by_cases e : j = 21 + t
  · subst e
    rw [upd_at]; unfold rg; rw [if_pos (by omega), show 21 + t - 21 = t by omega]
  · rw [upd_off e]; unfold rg
    by_cases h : 21 ≤ j ∧ j < 21 + t
    · rw [if_pos h, if_pos (by omega)]
    · rw [if_neg h, if_neg (by omega)]
def c1V (hl : xHl) (mi : Int32) (t : Nat) (v : Int32) : Int32 := if v = 0 ∧ nI (hl 5 t) = mi then nI 1 else v
def c2V (hl : xHl) (mi : Int32) (t : Nat) (v : Int32) : Int32 := if v = nI 1 ∧ (nI (hl 0 1) ≤ mi - nI (hl 5 t) ∨ nI (hl 0 0) ≤ mi) then nI 4 else v
theorem c12 (hl : xHl) (mi : Int32) (t : Nat) (v : Int32) : c2V hl mi t (c1V hl mi t v) = cgV hl mi t v := by
  unfold c2V c1V cgV
  rw [nl1, nl4]
  by_cases a : v = 0 ∧ nI (hl 5 t) = mi
  · rw [if_pos a, if_pos rfl]
    by_cases b : nI (hl 0 1) ≤ mi - nI (hl 5 t) ∨ nI (hl 0 0) ≤ mi
    · rw [if_pos b, if_pos ⟨rfl, b⟩]
    · rw [if_neg b, if_neg (fun e => b e.2)]
  · rw [if_neg a]
    by_cases c : v = 1
    · rw [if_pos c]
      by_cases b : nI (hl 0 1) ≤ mi - nI (hl 5 t) ∨ nI (hl 0 0) ≤ mi
      · rw [if_pos b, if_pos ⟨c, b⟩]
      · rw [if_neg b, if_neg (fun e => b e.2), c]
    · rw [if_neg c, if_neg (fun e => c e.1)]
theorem cg_eq (hl : xHl) (r : xRw) (n : Nat) : rg (c2V hl (r 0)) (rg (c1V hl (r 0)) r n) n = comeGo hl r n := by
  funext j
  unfold comeGo
  by_cases h : 21 ≤ j ∧ j < 21 + n
  · rw [if_pos h]; unfold rg; rw [if_pos h, if_pos h, c12]
  · rw [if_neg h]; unfold rg; rw [if_neg h, if_neg h]
theorem chF_no {p : Nat → Bool} {key : Nat → Int64} : ∀ {n : Nat}, (∀ t, t < n → p t = false) → chF p key n = (none, 0)
  | 0, _ => rfl
  | n + 1, h => by
    show (if p n = true ∧ (chF p key n).2 < key n then (some n, key n) else chF p key n) = _
    rw [if_neg (fun e => absurd ((h n (by omega)).symm.trans e.1) (by decide)), chF_no (fun t ht => h t (by omega))]
theorem take_no {hl : xHl} {rv : Option (List Nat)} {r : xRw} (h : ∀ t, t < hl 0 4 → ¬ r (21 + t) = 1) : ∀ n, takeF hl rv r n = r
  | 0 => rfl
  | n + 1 => by
    have hc : choice hl rv r n = none := by
      have hp : ∀ t, t < hl 0 4 → canT hl r n t = false := fun t ht => decide_eq_false (fun e => h t ht e.1)
      unfold choice
      rw [chF_no hp]
    show takeS hl rv (takeF hl rv r n) n = r
    rw [take_no h n]
    unfold takeS
    rw [hc]
    by_cases e : r (5 + n) = -1 ∧ r (13 + n) = 0
    · rw [if_pos e]
    · rw [if_neg e]
theorem comeGo_end {hl : xHl} {r : xRw} (h : nI (hl 0 0) ≤ r 0) : ∀ t, t < hl 0 4 → ¬ comeGo hl r (hl 0 4) (21 + t) = 1 := by
  intro t ht
  rw [comeGo_how hl r ht]
  unfold cgV
  by_cases a : (if r (21 + t) = 0 ∧ nI (hl 5 t) = r 0 then (1 : Int32) else r (21 + t)) = 1
  · rw [if_pos a, if_pos (Or.inr h)]; decide
  · rw [if_neg a]
    intro e
    rw [e] at a
    by_cases b : (1 : Int32) = 0 ∧ nI (hl 5 t) = r 0
    · exact absurd b.1 (by decide)
    · rw [if_neg b] at a; exact a rfl
def fsF (hl : xHl) (r : xRw) : Nat → xRw × Int32
  | 0 => (r, 0)
  | q + 1 => (cofS (workS hl (fsF hl r q).1 q) q, workM (fsF hl r q).1 q (fsF hl r q).2)
def Off13 (r r' : xRw) : Prop := ∀ j, ¬ (13 ≤ j ∧ j < 17) → r' j = r j
theorem Off13.up {r r' : xRw} (h : Off13 r r') (k : Nat) (v : Int32) : Off13 (upd r k v) (upd r' k v) := by
  intro j hj
  unfold upd
  by_cases e : j = k
  · rw [if_pos e, if_pos e]
  · rw [if_neg e, if_neg e]; exact h j hj
theorem Off13.work {hl : xHl} {r r' : xRw} {q : Nat} (h : Off13 r r') (hq : q < 4) : Off13 (workS hl r q) (workS hl r' q) := by
  unfold workS
  rw [h (5 + q) (by omega), h 0 (by omega), h (9 + q) (by omega), h (17 + q) (by omega)]
  by_cases a : r (5 + q) = -1
  · rw [if_pos a, if_pos a]
    by_cases b : r 0 < nI (hl 0 0)
    · rw [if_pos b, if_pos b]; exact h.up _ _
    · rw [if_neg b, if_neg b]; exact h
  · rw [if_neg a, if_neg a]
    by_cases b : r (9 + q) - 1 = 0
    · rw [if_pos b, if_pos b]; exact (((h.up _ _).up _ _).up _ _).up _ _
    · rw [if_neg b, if_neg b]; exact h.up _ _
theorem cofF_at (r : xRw) (i : Nat) : ∀ n, cofF r n (13 + i) = if i < n ∧ 0 < r (13 + i) then r (13 + i) - 1 else r (13 + i)
  | 0 => by rw [if_neg (by omega)]; rfl
  | n + 1 => by
    show cofS (cofF r n) n (13 + i) = _
    unfold cofS
    by_cases e : i = n
    · subst e
      have z := cofF_at r i i
      rw [if_neg (by omega)] at z
      rw [z]
      by_cases b : 0 < r (13 + i)
      · rw [if_pos b, upd_at, if_pos ⟨by omega, b⟩]
      · rw [if_neg b, if_neg (fun w => b w.2), z]
    · have z := cofF_at r i n
      by_cases b : 0 < cofF r n (13 + n)
      · rw [if_pos b, upd_off (by omega), z]
        by_cases c : i < n ∧ 0 < r (13 + i)
        · rw [if_pos c, if_pos ⟨by omega, c.2⟩]
        · rw [if_neg c, if_neg (fun w => c ⟨by omega, w.2⟩)]
      · rw [if_neg b, z]
        by_cases c : i < n ∧ 0 < r (13 + i)
        · rw [if_pos c, if_pos ⟨by omega, c.2⟩]
        · rw [if_neg c, if_neg (fun w => c ⟨by omega, w.2⟩)]
theorem cof_work {hl : xHl} {X : xRw} {n : Nat} (hn : n < 4) : workS hl (cofF X n) n = cofF (workS hl X n) n := by
  have ho : Off13 X (cofF X n) := fun j hj => cofF_off (fun q hq => by omega)
  funext j
  by_cases hj : 13 ≤ j ∧ j < 17
  · obtain ⟨i, hi⟩ : ∃ i, j = 13 + i := ⟨j - 13, by omega⟩
    subst hi
    rw [workS_off (by omega) (by omega) (by omega) (by omega), cofF_at, cofF_at, workS_off (r := X) (by omega) (by omega) (by omega) (by omega)]
  · rw [ho.work hn j hj]
    exact (cofF_off (fun q hq => by omega)).symm
theorem fs_eq {hl : xHl} {r : xRw} : ∀ n, n ≤ 4 → (fsF hl r n).1 = cofF (workF hl r n).1 n ∧ (fsF hl r n).2 = (workF hl r n).2
  | 0, _ => ⟨rfl, rfl⟩
  | n + 1, h => by
    obtain ⟨i1, i2⟩ := fs_eq (hl := hl) (r := r) n (by omega)
    have ho : Off13 (workF hl r n).1 (cofF (workF hl r n).1 n) := fun j hj => cofF_off (fun q hq => by omega)
    refine ⟨?_, ?_⟩
    · show cofS (workS hl (fsF hl r n).1 n) n = cofS (cofF (workS hl (workF hl r n).1 n) n) n
      rw [i1, cof_work (by omega)]
    · show workM (fsF hl r n).1 n (fsF hl r n).2 = workM (workF hl r n).1 n (workF hl r n).2
      unfold workM
      rw [i1, i2, ho (5 + n) (by omega), ho (9 + n) (by omega)]
theorem goMin_fs {hl : xHl} {rv : Option (List Nat)} {r : xRw} (h3 : hl 0 3 ≤ 4) : goMin hl rv r = (upd (fsF hl (takeF hl rv (comeGo hl r (hl 0 4)) (hl 0 3)) (hl 0 3)).1 0 ((fsF hl (takeF hl rv (comeGo hl r (hl 0 4)) (hl 0 3)) (hl 0 3)).1 0 + 1), (fsF hl (takeF hl rv (comeGo hl r (hl 0 4)) (hl 0 3)) (hl 0 3)).2) := by
  obtain ⟨i1, i2⟩ := fs_eq (hl := hl) (r := takeF hl rv (comeGo hl r (hl 0 4)) (hl 0 3)) (hl 0 3) h3
  rw [i1, i2]
  rfl
/-- keys that are a constant more choose the same -/
theorem chF_shift {p : Nat → Bool} {key key' : Nat → Int64} : ∀ {n : Nat}, (∀ t, t < n → 0 < key t ∧ key t < 100000 ∧ key' t = key t + 9000) → (chF p key' n).1 = (chF p key n).1 ∧ ((chF p key n).1 = none ∧ (chF p key n).2 = 0 ∧ (chF p key' n).2 = 0 ∨ (0 < (chF p key n).2 ∧ (chF p key n).2 < 100000 ∧ (chF p key' n).2 = (chF p key n).2 + 9000))
  | 0, _ => ⟨rfl, Or.inl ⟨rfl, rfl, rfl⟩⟩
  | n + 1, h => by
    obtain ⟨i1, i2⟩ := chF_shift (p := p) (fun t ht => h t (show t < n + 1 by omega)) (n := n)
    obtain ⟨h1, h2, h3⟩ := h n (by omega)
    have hlt : ∀ a b : Int64, 0 < a → a < 100000 → 0 < b → b < 100000 → (a + 9000 < b + 9000 ↔ a < b) := by
      intro a b a1 a2 b1 b2
      have t1 : (a + 9000).toInt = a.toInt + 9000 := by
        rw [Int64.lt_iff_toInt_lt] at a1 a2
        rw [Int64.toInt_add]
        have q1 : (9000 : Int64).toInt = 9000 := by decide
        have q2 : (100000 : Int64).toInt = 100000 := by decide
        have q3 : (0 : Int64).toInt = 0 := by decide
        rw [q1]; rw [q2] at a2; rw [q3] at a1
        exact Int.bmod_eq_of_le (by omega) (by omega)
      have t2 : (b + 9000).toInt = b.toInt + 9000 := by
        rw [Int64.lt_iff_toInt_lt] at b1 b2
        rw [Int64.toInt_add]
        have q1 : (9000 : Int64).toInt = 9000 := by decide
        have q2 : (100000 : Int64).toInt = 100000 := by decide
        have q3 : (0 : Int64).toInt = 0 := by decide
        rw [q1]; rw [q2] at b2; rw [q3] at b1
        exact Int.bmod_eq_of_le (by omega) (by omega)
      rw [Int64.lt_iff_toInt_lt, Int64.lt_iff_toInt_lt, t1, t2]
      omega
    have hpos : (0 : Int64) < key n + 9000 := by
      rw [Int64.lt_iff_toInt_lt] at h1 h2 ⊢
      rw [Int64.toInt_add]
      have q1 : (9000 : Int64).toInt = 9000 := by decide
      have q2 : (100000 : Int64).toInt = 100000 := by decide
      have q3 : (0 : Int64).toInt = 0 := by decide
      rw [q1, q3]; rw [q2] at h2; rw [q3] at h1
      rw [Int.bmod_eq_of_le (by omega) (by omega)]; omega
    have hiff : (chF p key' n).2 < key' n ↔ (chF p key n).2 < key n := by
      rw [h3]
      rcases i2 with ⟨-, b1, b2⟩ | ⟨b1, b2, b3⟩
      · rw [b1, b2]; exact ⟨fun _ => h1, fun _ => hpos⟩
      · rw [b3]; exact hlt _ _ b1 b2 h1 h2
    show (if p n = true ∧ (chF p key' n).2 < key' n then (some n, key' n) else chF p key' n).1 = (if p n = true ∧ (chF p key n).2 < key n then (some n, key n) else chF p key n).1 ∧ _
    show _ ∧ ((if p n = true ∧ (chF p key n).2 < key n then (some n, key n) else chF p key n).1 = none ∧ (if p n = true ∧ (chF p key n).2 < key n then (some n, key n) else chF p key n).2 = 0 ∧ (if p n = true ∧ (chF p key' n).2 < key' n then (some n, key' n) else chF p key' n).2 = 0 ∨ (0 < (if p n = true ∧ (chF p key n).2 < key n then (some n, key n) else chF p key n).2 ∧ (if p n = true ∧ (chF p key n).2 < key n then (some n, key n) else chF p key n).2 < 100000 ∧ (if p n = true ∧ (chF p key' n).2 < key' n then (some n, key' n) else chF p key' n).2 = (if p n = true ∧ (chF p key n).2 < key n then (some n, key n) else chF p key n).2 + 9000))
    by_cases c : p n = true ∧ (chF p key n).2 < key n
    · rw [if_pos c, if_pos ⟨c.1, hiff.mpr c.2⟩]
      exact ⟨rfl, Or.inr ⟨h1, h2, h3⟩⟩
    · rw [if_neg c, if_neg (fun e => c ⟨e.1, hiff.mp e.2⟩)]
      exact ⟨i1, i2⟩
