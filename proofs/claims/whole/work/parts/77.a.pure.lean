/-! ===== the reference's reader: its tape of signed bytes, words ===== -/
def TpE (f : Nat → Int32) (tp : Nat → Nat) : Prop := ∀ j, j < 400 → f j &&& nI 255 = nI (tp j) ∧ tp j < 256 ∧ (tp j < 128 → f j = nI (tp j)) ∧ (128 ≤ tp j → f j < 0)
theorem TpE.a {f : Nat → Int32} {tp : Nat → Nat} (h : TpE f tp) : ∀ j, j < 400 → f j &&& nI 255 = nI (tp j) := fun j hj => (h j hj).1
theorem TpE.lo {f : Nat → Int32} {tp : Nat → Nat} (h : TpE f tp) {j : Nat} (hj : j < 400) (c : f j < nI 97) : isLw tp j = false := by
  obtain ⟨h1, h2, h3, h4⟩ := h j hj
  by_cases e : tp j < 128
  · rw [h3 e] at c
    exact isLw_f (Or.inl ((nI_ltI (by omega) (by decide)).mp c))
  · exact isLw_f (Or.inr (by omega))
theorem TpE.hi {f : Nat → Int32} {tp : Nat → Nat} (h : TpE f tp) {j : Nat} (hj : j < 400) (c : nI 122 < f j) : isLw tp j = false := by
  obtain ⟨h1, h2, h3, h4⟩ := h j hj
  by_cases e : tp j < 128
  · rw [h3 e] at c
    exact isLw_f (Or.inr ((nI_ltI (by decide) (by omega)).mp c))
  · exact isLw_f (Or.inr (by omega))
theorem TpE.mid {f : Nat → Int32} {tp : Nat → Nat} (h : TpE f tp) {j : Nat} (hj : j < 400) (c : ¬ f j < nI 97) (c2 : ¬ nI 122 < f j) : isLw tp j = true := by
  obtain ⟨h1, h2, h3, h4⟩ := h j hj
  by_cases e : tp j < 128
  · rw [h3 e] at c c2
    exact isLw_t (Nat.not_lt.mp (fun q => c ((nI_ltI (by omega) (by decide)).mpr q))) (Nat.not_lt.mp (fun q => c2 ((nI_ltI (by decide) (by omega)).mpr q)))
  · have h5 := h4 (by omega)
    exact absurd (Int32.lt_of_lt_of_le h5 (nI_pos' (by decide))) c
theorem TpE.lw {f : Nat → Int32} {tp : Nat → Nat} (h : TpE f tp) {j : Nat} (hj : j < 400) (c : isLw tp j = true) : f j = nI (tp j) := (h j hj).2.2.1 (by have := of_decide_eq_true c; omega)
def eqW (tp : Nat → Nat) (p i : Nat) : Nat → Bool
  | 0 => true
  | k + 1 => eqW tp p i k && decide (tp (p + k) = (wl i).getD k 0)
def stB (tp : Nat → Nat) (n p i : Nat) : Bool := decide (runF (isLw tp) (n - p) p - p = (wl i).length) && eqW tp p i (wl i).length
theorem eqW_f {tp : Nat → Nat} {p i : Nat} : ∀ {k m : Nat}, eqW tp p i k = false → k ≤ m → eqW tp p i m = false
  | k, 0, h, hk => by have : k = 0 := by omega
                      rw [this] at h; exact h
  | k, m + 1, h, hk => by
    by_cases e : k = m + 1
    · rw [← e]; exact h
    · show (eqW tp p i m && _) = false
      rw [eqW_f h (by omega)]; rfl
def sgV (tp : Nat → Nat) (n p : Nat) : Int32 := if p < n then nI (tp p) else -1
def dgB (tp : Nat → Nat) (n p : Nat) : Bool := decide (p < n) && isDg tp p
def dvN (tp : Nat → Nat) (pl : Nat) : Nat → Nat
  | 0 => 0
  | k + 1 => if k < 5 then 10 * dvN tp pl k + tp (pl + k) - 48 else dvN tp pl k
theorem dvN_lt (tp : Nat → Nat) (pl : Nat) : ∀ k, (∀ j, j < k → isDg tp (pl + j) = true) → dvN tp pl k < 100000 ∧ (k ≤ 5 → dvN tp pl k < 10 ^ k)
  | 0, _ => ⟨show 0 < 100000 by decide, fun _ => show 0 < 10 ^ 0 by decide⟩
  | k + 1, hd => by
    obtain ⟨h1, h2⟩ := dvN_lt tp pl k (fun j hj => hd j (by omega))
    have h3 := of_decide_eq_true (hd k (by omega))
    show (if k < 5 then _ else _) < _ ∧ (_ → (if k < 5 then _ else _) < _)
    by_cases e : k < 5
    · rw [if_pos e]
      have h4 := h2 (by omega)
      have h5 : 10 ^ k ≤ 10000 := Nat.le_trans (Nat.pow_le_pow_right (by decide) (show k ≤ 4 by omega)) (by decide)
      exact ⟨by omega, fun _ => by rw [Nat.pow_succ]; omega⟩
    · rw [if_neg e]; exact ⟨h1, fun q => by omega⟩
theorem dvN_nm (tp : Nat → Nat) (pl : Nat) : ∀ k, k ≤ 5 → (∀ j, j < k → isDg tp (pl + j) = true) → nmF tp pl k = nI (dvN tp pl k)
  | 0, _, _ => rfl
  | k + 1, h, hd => by
    have h1 := dvN_nm tp pl k (by omega) (fun j hj => hd j (by omega))
    have h3 := of_decide_eq_true (hd k (by omega))
    show (if k < 5 then nmF tp pl k * nI 10 + nI (tp (pl + k)) - nI 48 else -1) = nI (if k < 5 then _ else _)
    rw [if_pos (by omega), if_pos (by omega), h1, pk_mul, nI_add, pk_sub (by omega), Nat.mul_comm 10]
def dgF (tp : Nat → Nat) (n p f : Nat) : Nat := if 5 < runF (isDg tp) (n - p) p - p then flt f 1 p else f
theorem skP_o {tp : Nat → Nat} {n p : Nat} (h : n ≤ p) : skP tp n p = p := by unfold skP; rw [show n - p = 0 by omega]; rfl
theorem stB_f {tp : Nat → Nat} {e p i k m : Nat} (h : (decide (e - p = m) && eqW tp p i k) = false) (hk : k ≤ m) : (decide (e - p = m) && eqW tp p i m) = false := by
  by_cases q : e - p = m
  · rw [decide_eq_true q, Bool.true_and] at h ⊢; exact eqW_f h hk
  · rw [decide_eq_false q]; rfl
