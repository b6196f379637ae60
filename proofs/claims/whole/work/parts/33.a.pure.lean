/-! ===== the tape read: tokens ===== -/
def runF (P : Nat → Bool) : Nat → Nat → Nat
  | 0, p => p
  | k + 1, p => if P p = true then runF P k (p + 1) else p
theorem runF_t {P : Nat → Bool} {k p : Nat} (h : P p = true) : runF P (k + 1) p = runF P k (p + 1) := if_pos h
theorem runF_f {P : Nat → Bool} {k p : Nat} (h : P p = false) : runF P (k + 1) p = p := if_neg (by rw [h]; decide)
theorem runF_le (P : Nat → Bool) : ∀ k p, p ≤ runF P k p ∧ runF P k p ≤ p + k
  | 0, p => ⟨Nat.le_refl p, Nat.le_refl p⟩
  | k + 1, p => by
    simp only [runF]
    split
    · have := runF_le P k (p + 1); omega
    · omega
theorem runF_end {P : Nat → Bool} : ∀ {k p : Nat}, runF P k p < p + k → P (runF P k p) = false
  | 0, p, h => by simp only [runF] at h; omega
  | k + 1, p, h => by
    by_cases e : P p = true
    · rw [runF_t e] at h ⊢; exact runF_end (by omega)
    · have e' : P p = false := by simpa using e
      rw [runF_f e']; exact e'
theorem runF_in {P : Nat → Bool} : ∀ {k p j : Nat}, p ≤ j → j < runF P k p → P j = true
  | 0, p, j, h1, h2 => by simp only [runF] at h2; omega
  | k + 1, p, j, h1, h2 => by
    by_cases e : P p = true
    · rw [runF_t e] at h2
      by_cases e2 : j = p
      · rw [e2]; exact e
      · exact runF_in (by omega) h2
    · rw [runF_f (by simpa using e)] at h2; omega
def blB (tp : Nat → Nat) : Nat → Bool := fun j => decide (tp j = 32)
def isLw (tp : Nat → Nat) : Nat → Bool := fun j => decide (97 ≤ tp j ∧ tp j ≤ 122)
def isDg (tp : Nat → Nat) : Nat → Bool := fun j => decide (48 ≤ tp j ∧ tp j ≤ 57)
def skP (tp : Nat → Nat) (n p : Nat) : Nat := runF (blB tp) (n - p) p
def nmF (tp : Nat → Nat) (pl : Nat) : Nat → Int32
  | 0 => nI 0
  | k + 1 => if k < 5 then nmF tp pl k * nI 10 + nI (tp (pl + k)) - nI 48 else -1
def twA (tp : Nat → Nat) (n pl : Nat) : Bool := decide ((tp pl = 60 ∨ tp pl = 62) ∧ pl + 1 < n ∧ tp (pl + 1) = 61)
def kdA (tp : Nat → Nat) (n pl : Nat) : Nat := if n ≤ pl then 0 else if isLw tp pl = true then 1 else if isDg tp pl = true then 2 else 3
def atA (tp : Nat → Nat) (n pl : Nat) : Nat := if n ≤ pl then pl else if isLw tp pl = true then runF (isLw tp) (n - pl) pl else if isDg tp pl = true then runF (isDg tp) (n - pl) pl else if twA tp n pl = true then pl + 1 + 1 else pl + 1
def sgA (tp : Nat → Nat) (n pl : Nat) : Nat := if n ≤ pl then 0 else if kdA tp n pl = 3 ∧ twA tp n pl = true then tp pl + 256 else tp pl
def nmA (tp : Nat → Nat) (n pl : Nat) : Int32 := if kdA tp n pl = 2 then nmF tp pl (runF (isDg tp) (n - pl) pl - pl) else nI 0
section TKL
variable {tp : Nat → Nat} {n pl : Nat}
theorem isLw_t (h1 : 97 ≤ tp pl) (h2 : tp pl ≤ 122) : isLw tp pl = true := decide_eq_true ⟨h1, h2⟩
theorem isLw_f (h : tp pl < 97 ∨ 122 < tp pl) : isLw tp pl = false := decide_eq_false (by omega)
theorem isDg_t (h1 : 48 ≤ tp pl) (h2 : tp pl ≤ 57) : isDg tp pl = true := decide_eq_true ⟨h1, h2⟩
theorem isDg_f (h : tp pl < 48 ∨ 57 < tp pl) : isDg tp pl = false := decide_eq_false (by omega)
theorem kd_end (h : n ≤ pl) : kdA tp n pl = 0 := if_pos h
theorem kd_w (h : pl < n) (hl : isLw tp pl = true) : kdA tp n pl = 1 := by unfold kdA; rw [if_neg (by omega), if_pos hl]
theorem kd_d (h : pl < n) (hl : isLw tp pl = false) (hd : isDg tp pl = true) : kdA tp n pl = 2 := by unfold kdA; rw [if_neg (by omega), if_neg (by rw [hl]; decide), if_pos hd]
theorem kd_s (h : pl < n) (hl : isLw tp pl = false) (hd : isDg tp pl = false) : kdA tp n pl = 3 := by unfold kdA; rw [if_neg (by omega), if_neg (by rw [hl]; decide), if_neg (by rw [hd]; decide)]
theorem at_end (h : n ≤ pl) : atA tp n pl = pl := if_pos h
theorem at_w (h : pl < n) (hl : isLw tp pl = true) : atA tp n pl = runF (isLw tp) (n - pl) pl := by unfold atA; rw [if_neg (by omega), if_pos hl]
theorem at_d (h : pl < n) (hl : isLw tp pl = false) (hd : isDg tp pl = true) : atA tp n pl = runF (isDg tp) (n - pl) pl := by unfold atA; rw [if_neg (by omega), if_neg (by rw [hl]; decide), if_pos hd]
theorem at_s (h : pl < n) (hl : isLw tp pl = false) (hd : isDg tp pl = false) : atA tp n pl = if twA tp n pl = true then pl + 1 + 1 else pl + 1 := by unfold atA; rw [if_neg (by omega), if_neg (by rw [hl]; decide), if_neg (by rw [hd]; decide)]
theorem sg_end (h : n ≤ pl) : sgA tp n pl = 0 := if_pos h
theorem sg_n (h : pl < n) (h3 : kdA tp n pl ≠ 3) : sgA tp n pl = tp pl := by unfold sgA; rw [if_neg (by omega), if_neg (fun q => h3 q.1)]
theorem sg_s (h : pl < n) (h3 : kdA tp n pl = 3) : sgA tp n pl = if twA tp n pl = true then tp pl + 256 else tp pl := by
  unfold sgA; rw [if_neg (by omega)]
  by_cases e : twA tp n pl = true
  · rw [if_pos ⟨h3, e⟩, if_pos e]
  · rw [if_neg (fun q => e q.2), if_neg e]
theorem nm_n (h : kdA tp n pl ≠ 2) : nmA tp n pl = nI 0 := if_neg h
theorem nm_d (h : kdA tp n pl = 2) : nmA tp n pl = nmF tp pl (runF (isDg tp) (n - pl) pl - pl) := if_pos h
end TKL
theorem at_le {tp : Nat → Nat} {n pl : Nat} (h : pl ≤ n) : pl ≤ atA tp n pl ∧ atA tp n pl ≤ n ∧ (pl < n → pl < atA tp n pl) := by
  unfold atA
  split
  · omega
  · rename_i h0
    split
    · rename_i h1
      have a := runF_le (isLw tp) (n - pl) pl
      obtain ⟨k, hk⟩ : ∃ k, n - pl = k + 1 := ⟨n - pl - 1, by omega⟩
      rw [hk] at a ⊢
      rw [runF_t h1] at a ⊢
      have b := runF_le (isLw tp) k (pl + 1)
      omega
    · split
      · rename_i h1
        have a := runF_le (isDg tp) (n - pl) pl
        obtain ⟨k, hk⟩ : ∃ k, n - pl = k + 1 := ⟨n - pl - 1, by omega⟩
        rw [hk] at a ⊢
        rw [runF_t h1] at a ⊢
        have b := runF_le (isDg tp) k (pl + 1)
        omega
      · split
        · rename_i h2
          have := of_decide_eq_true h2
          omega
        · omega
theorem sk_le {tp : Nat → Nat} {n p : Nat} (h : p ≤ n) : p ≤ skP tp n p ∧ skP tp n p ≤ n := by
  have := runF_le (blB tp) (n - p) p
  unfold skP; omega
abbrev rdO (tx n at0 kd pl sg : Nat) (nm : Int32) (f : Nat) : xE := eO 7 [.ref tx, .int (nI n), .int (nI at0), .int (nI kd), .int (nI pl), .int (nI sg), .int nm, .int (nI f)]
abbrev rdT (tp : Nat → Nat) (tx n pl : Nat) : xE := rdO tx n (atA tp n pl) (kdA tp n pl) pl (sgA tp n pl) (nmA tp n pl) 0
/-- a reader: at a token, or behind a fault -/
def RdAt (G : xHp) (b tx n : Nat) (tp : Nat → Nat) (f p : Nat) : Prop := n ≤ 400 ∧ p ≤ n ∧ G tx = some (eI 0 400 (nF tp)) ∧ (∀ j, tp j < 256) ∧ ((f = 0 ∧ G b = some (rdT tp tx n (skP tp n p))) ∨ (0 < f ∧ f < 10000 ∧ ∃ pl sg nm : Int32, G b = some (eO 7 [.ref tx, .int (nI n), .int (nI n), .int (nI 4), .int pl, .int sg, .int nm, .int (nI f)])))
theorem RdAt.ok {G : xHp} {b tx n : Nat} {tp : Nat → Nat} {p : Nat} (h : RdAt G b tx n tp 0 p) : G b = some (rdT tp tx n (skP tp n p)) := by
  rcases h.2.2.2.2 with q | q
  · exact q.2
  · exact absurd q.1 (by omega)
theorem RdAt.bad {G : xHp} {b tx n : Nat} {tp : Nat → Nat} {f p : Nat} (h : RdAt G b tx n tp f p) (hf : f ≠ 0) : ∃ pl sg nm : Int32, G b = some (eO 7 [.ref tx, .int (nI n), .int (nI n), .int (nI 4), .int pl, .int sg, .int nm, .int (nI f)]) := by
  rcases h.2.2.2.2 with q | q
  · exact absurd q.1 hf
  · exact q.2.2
theorem RdAt.fr {G G' : xHp} {b tx n : Nat} {tp : Nat → Nat} {f p : Nat} (h : RdAt G b tx n tp f p) (h1 : G' b = G b) (h2 : G' tx = G tx) : RdAt G' b tx n tp f p := by
  obtain ⟨a1, a2, a3, a4, a5⟩ := h
  refine ⟨a1, a2, h2.trans a3, a4, ?_⟩
  rw [h1]; exact a5
def flP (tp : Nat → Nat) (n f p why : Nat) : Nat := if f = 0 then 1 + 8 * skP tp n p + why else f
abbrev rdQ (G : xHp) (h b tx n : Nat) (tp : Nat → Nat) (v : Option Value) (f p : Nat) : xPost := xEx (fun G' => RdAt G' b tx n tp f p ∧ Fr G G' b 1) (fun _ => v) (fun _ => h) (fun G' => G')
