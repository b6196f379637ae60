/-! ===== the reference: images and what is tried ===== -/
def cF (F : Nat → Int32) (b p : Nat) : Nat → Int32 := upd (upd F 64 (nI b)) 63 (nI p)
def layF (im f : Nat → Int32) (p n : Nat) : Nat → Int32 := fun j => if p ≤ j ∧ j < p + n then f (j - p) else im j
def ldF (im f : Nat → Int32) (p n : Nat) : Nat → Int32 := fun j => if j < n then im (p + j) else f j
theorem layF_0 (im f : Nat → Int32) (p : Nat) : layF im f p 0 = im := by funext j; unfold layF; rw [if_neg (by omega)]
theorem layF_s (im f : Nat → Int32) (p n : Nat) : upd (layF im f p n) (p + n) (f n) = layF im f p (n + 1) := by
  funext j
  by_cases e : j = p + n
  · subst e; rw [upd_at]; unfold layF; rw [if_pos (by omega), show p + n - p = n by omega]
  · rw [upd_off e]; unfold layF
    by_cases h : p ≤ j ∧ j < p + n
    · rw [if_pos h, if_pos (by omega)]
    · rw [if_neg h, if_neg (by omega)]
theorem ldF_0 (im f : Nat → Int32) (p : Nat) : ldF im f p 0 = f := by funext j; unfold ldF; rw [if_neg (by omega)]
theorem ldF_s (im f : Nat → Int32) (p n : Nat) : upd (ldF im f p n) n (im (p + n)) = ldF im f p (n + 1) := by
  funext j
  by_cases e : j = n
  · subst e; rw [upd_at]; unfold ldF; rw [if_pos (by omega)]
  · rw [upd_off e]; unfold ldF
    by_cases h : j < n
    · rw [if_pos h, if_pos (by omega)]
    · rw [if_neg h, if_neg (by omega)]
def cpF (f g : Nat → Int32) (n : Nat) : Nat → Int32 := fun j => if j < n then f j else g j
theorem cpF_0 (f g : Nat → Int32) : cpF f g 0 = g := by funext j; unfold cpF; rw [if_neg (by omega)]
theorem cpF_s (f g : Nat → Int32) (n : Nat) : upd (cpF f g n) n (f n) = cpF f g (n + 1) := by
  funext j
  by_cases e : j = n
  · subst e; rw [upd_at]; unfold cpF; rw [if_pos (by omega)]
  · rw [upd_off e]; unfold cpF
    by_cases h : j < n
    · rw [if_pos h, if_pos (by omega)]
    · rw [if_neg h, if_neg (by omega)]
/-- the arrays as they are -/
def RW (G0 G : xHp) (y : Nat) (X : Nat → Nat → Int32) (F : Nat → Int32) (wa sa : Nat → Int64) : Prop := G y = some (modO y F) ∧ (∀ k, 1 ≤ k → k ≤ 45 → G (y + k) = some (mcell k X wa sa)) ∧ ∀ a, ¬ (y ≤ a ∧ a < y + 46) → G a = G0 a
theorem MW.raw {G0 G : xHp} {y : Nat} {hl : xHl} {r : xRw} {sc : Nat × Nat × Int32} {A : Nat → Nat → Int32} {F : Nat → Int32} {wa sa : Nat → Int64} (h : MW G0 G y hl r sc A F wa sa) : RW G0 G y (ovr A hl r sc) F wa sa := ⟨h.1, h.2.1, h.2.2.1⟩
theorem RW.md {G0 G : xHp} {y : Nat} {hl : xHl} {r : xRw} {sc : Nat × Nat × Int32} {A X : Nat → Nat → Int32} {F : Nat → Int32} {wa sa : Nat → Int64} (h : RW G0 G y X F wa sa) (hb : ∀ i j, hl i j < 1000000) (he : ∀ k j, 1 ≤ k → k ≤ 45 → j < mln k → X k j = ovr A hl r sc k j) : RW G0 G y X F wa sa := h
section RWL
variable {G0 G : xHp} {y : Nat} {X : Nat → Nat → Int32} {F : Nat → Int32} {wa sa : Nat → Int64}
theorem RW.cell (h : RW G0 G y X F wa sa) {k : Nat} (h1 : 1 ≤ k) (h2 : k ≤ 45) (h3 : k ≠ 27) (h4 : k ≠ 35) (h5 : k ≠ 36) (h6 : k ≠ 45) : G (y + k) = some (eI 0 (mln k) (X k)) := by
  rw [h.2.1 k h1 h2]
  unfold mcell mty
  rw [if_neg h4, if_neg h5, if_neg h3, if_neg h6]
theorem RW.arr (h : RW G0 G y X F wa sa) {k : Nat} (h1 : 1 ≤ k) (h2 : k ≤ 45) (h3 : k ≠ 27) (h4 : k ≠ 35) (h5 : k ≠ 36) (h6 : k ≠ 45) (f : Nat → Int32) : RW G0 (xup G (y + k) (eI 0 (mln k) f)) y (setA X k f) F wa sa := by
  obtain ⟨a1, a2, a3⟩ := h
  refine ⟨xup_of (by omega) a1, fun i b1 b2 => ?_, fun a ha => by rw [xup_ne (by omega)]; exact a3 a ha⟩
  by_cases e : i = k
  · subst e
    rw [xup_eq]
    unfold mcell mty setA
    rw [if_neg h4, if_neg h5, if_neg h3, if_neg h6, if_pos rfl]
  · rw [xup_ne (by omega), a2 i b1 b2]
    unfold mcell setA
    rw [if_neg e]
theorem RW.fld (h : RW G0 G y X F wa sa) (F' : Nat → Int32) : RW G0 (xup G y (modO y F')) y X F' wa sa := by
  obtain ⟨a1, a2, a3⟩ := h
  exact ⟨xup_eq, fun k a b => xup_of (by omega) (a2 k a b), fun a ha => by rw [xup_ne (by omega)]; exact a3 a ha⟩
end RWL
