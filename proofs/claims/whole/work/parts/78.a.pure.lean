/-! ===== the reference's reader: entries, what is counted, words ===== -/
def entA (A : Nat → Nat → Int32) (f sl en a b : Nat) : Nat → Nat → Int32 := if f = 0 then setA (setA A 28 (upd (A 28) (300 * sl + en) (nI a))) 29 (upd (A 29) (300 * sl + en) (nI b)) else A
def entN (f en : Nat) : Nat := if f = 0 then en + 1 else en
def cfF (f co b : Nat) : Nat := if co = 60 then flt f 3 b else f
theorem flt_lt {f c b : Nat} (hf : f < 1000000) (hc : c < 8) (hb : b < 100000) : flt f c b < 1000000 := by unfold flt; split <;> omega
theorem cfF_lt {f co b : Nat} (hf : f < 1000000) (hb : b < 100000) : cfF f co b < 1000000 := by
  unfold cfF; split
  · exact flt_lt hf (by decide) hb
  · exact hf
theorem dgF_lt {tp : Nat → Nat} {n p f : Nat} (hf : f < 1000000) (hb : p < 100000) : dgF tp n p f < 1000000 := by
  unfold dgF; split
  · exact flt_lt hf (by decide) hb
  · exact hf
/-- the first of the words that stands here, of those from k on -/
def wkF (tp : Nat → Nat) (n p : Nat) : Nat → Nat → Nat
  | 0, k => k
  | j + 1, k => if stB tp n p (7 + k) = true then k else wkF tp n p j (k + 1)
theorem wkF_le (tp : Nat → Nat) (n p : Nat) : ∀ j k, k ≤ wkF tp n p j k ∧ wkF tp n p j k ≤ k + j
  | 0, k => ⟨Nat.le_refl k, Nat.le_refl k⟩
  | j + 1, k => by
    simp only [wkF]
    split
    · omega
    · have := wkF_le tp n p j (k + 1); omega
theorem wkF_st (tp : Nat → Nat) (n p : Nat) : ∀ j k, wkF tp n p j k < k + j → stB tp n p (7 + wkF tp n p j k) = true
  | 0, k, h => by simp only [wkF] at h; omega
  | j + 1, k, h => by
    simp only [wkF] at h ⊢
    split
    · rename_i hs; exact hs
    · rename_i hs
      rw [if_neg hs] at h
      exact wkF_st tp n p j (k + 1) (by omega)
def valF (tp : Nat → Nat) (n p f co : Nat) : Nat := if dgB tp n (skP tp n p) = true then cfF (dgF tp n (skP tp n p) f) co (skP tp n p) else if wkF tp n (skP tp n p) 12 0 = 12 then flt f 0 (skP tp n p) else cfF f co (skP tp n p)
def valQ (tp : Nat → Nat) (n p : Nat) : Nat := if dgB tp n (skP tp n p) = true then runF (isDg tp) (n - skP tp n p) (skP tp n p) else if wkF tp n (skP tp n p) 12 0 = 12 then skP tp n p else skP tp n p + (xs_byt (7 + wkF tp n (skP tp n p) 12 0)).length
def valC (tp : Nat → Nat) (n p co : Nat) : Nat := if dgB tp n (skP tp n p) = false ∧ wkF tp n (skP tp n p) 12 0 = 12 then co else co + 1
def valA (tp : Nat → Nat) (n p f co : Nat) (A : Nat → Nat → Int32) (sl en : Nat) : Nat → Nat → Int32 := if dgB tp n (skP tp n p) = true then entA A (valF tp n p f co) sl en 0 (dvN tp (skP tp n p) (runF (isDg tp) (n - skP tp n p) (skP tp n p) - skP tp n p)) else if wkF tp n (skP tp n p) 12 0 = 12 then A else entA A (valF tp n p f co) sl en 1 (wkF tp n (skP tp n p) 12 0)
def valN (tp : Nat → Nat) (n p f co en : Nat) : Nat := if dgB tp n (skP tp n p) = false ∧ wkF tp n (skP tp n p) 12 0 = 12 then en else entN (valF tp n p f co) en
theorem sk_9 {tp : Nat → Nat} {n p : Nat} (hn : n ≤ 400) (hp : p < 50000) : skP tp n p < 60000 := by
  have := runF_le (blB tp) (n - p) p
  unfold skP; omega
theorem upd_3 {F : Nat → Int32} {v : Int32} : upd F 36 v 36 = v := upd_at
theorem Md_i7 {k : Nat} (h : k < 12) : 7 + k < xs_n := by show 7 + k < 26; omega
theorem cf_0 {f co b : Nat} (h : cfF f co b = 0) : f = 0 := by
  unfold cfF at h
  split at h
  · unfold flt at h
    split at h
    · omega
    · exact h
  · exact h
theorem dg_0 {tp : Nat → Nat} {n p f : Nat} (h : dgF tp n p f = 0) : f = 0 := by
  unfold dgF at h
  split at h
  · unfold flt at h
    split at h
    · omega
    · exact h
  · exact h
theorem val_to {G0 G8 : xHp} {y : Nat} {hl : xHl} {r : xRw} {sc : Nat × Nat × Int32} {A : Nat → Nat → Int32} {F : Nat → Int32} {wa sa : Nat → Int64} {tn p f sl en de co op : Nat} {tp : Nat → Nat} (c1 : ¬ dgB tp tn (skP tp tn p) = true) (c2 : dgB tp tn (skP tp tn p) = false) (h : MW G0 G8 y hl r sc (if wkF tp tn (skP tp tn p) 12 0 = 12 then A else entA A (cfF f co (skP tp tn p)) sl en 1 (wkF tp tn (skP tp tn p) 12 0)) (pF F tn (if wkF tp tn (skP tp tn p) 12 0 = 12 then skP tp tn p else skP tp tn p + (xs_byt (7 + wkF tp tn (skP tp tn p) 12 0)).length) (if wkF tp tn (skP tp tn p) 12 0 = 12 then flt f 0 (skP tp tn p) else cfF f co (skP tp tn p)) sl (if wkF tp tn (skP tp tn p) 12 0 = 12 then en else entN (cfF f co (skP tp tn p)) en) de (if wkF tp tn (skP tp tn p) 12 0 = 12 then co else co + 1) op) wa sa) : MW G0 G8 y hl r sc (valA tp tn p f co A sl en) (pF F tn (valQ tp tn p) (valF tp tn p f co) sl (valN tp tn p f co en) de (valC tp tn p co) op) wa sa := by
  by_cases e : wkF tp tn (skP tp tn p) 12 0 = 12
  · simp only [if_pos e] at h
    simp only [valA, valQ, valF, valN, valC, if_neg c1, if_pos e, if_pos (And.intro c2 e)]
    exact h
  · simp only [if_neg e] at h
    simp only [valA, valQ, valF, valN, valC, if_neg c1, if_neg e, if_neg (show ¬ (_ ∧ _) from fun q0 => e q0.2)]
    exact h
theorem wo_11 {k : Nat} (hk : k < 12) (c : (nI k).toInt < 0 ∨ 10 < (nI k).toInt) : k = 11 := by
  rw [nI_toInt (by omega)] at c
  omega
