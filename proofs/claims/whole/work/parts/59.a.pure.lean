/-! ===== the reference: the past ===== -/
def mF (F : Nat → Int32) (b p : Nat) : Nat → Int32 := upd (upd F 51 (nI b)) 50 (nI p)
theorem setA_self {A : Nat → Nat → Int32} {k : Nat} {f : Nat → Int32} (h : A k = f) : setA A k f = A := by
  funext i; unfold setA
  by_cases e : i = k
  · rw [if_pos e, e, h]
  · rw [if_neg e]
theorem lay_sX {X : Nat → Nat → Int32} {p k : Nat} {f : Nat → Int32} {v : Int32} (hv : f k = v) : setA (setA X 37 (layF (X 37) f p k)) 37 (upd (setA X 37 (layF (X 37) f p k) 37) (p + k) v) = setA X 37 (layF (X 37) f p (k + 1)) := by
  rw [setA_up, setA_at, ← hv, layF_s]
theorem ld_sX {X : Nat → Nat → Int32} {q p k : Nat} {f : Nat → Int32} : setA (setA X q (ldF (X 37) f p k)) q (upd (ldF (X 37) f p k) k (X 37 (p + k))) = setA X q (ldF (X 37) f p (k + 1)) := by
  rw [setA_up, ldF_s]
theorem lay_blk {im : Nat → Int32} {r : xRw} {p o n : Nat} : layF (layF im r p o) (blk r o n) (p + o) n = layF im r p (o + n) := by
  funext j
  unfold layF blk
  by_cases h : p + o ≤ j ∧ j < p + o + n
  · rw [if_pos h, if_pos (by omega), if_pos (by omega), show o + (j - (p + o)) = j - p by omega]
  · rw [if_neg h]
    by_cases h2 : p ≤ j ∧ j < p + o
    · rw [if_pos h2, if_pos (by omega)]
    · rw [if_neg h2, if_neg (by omega)]
theorem ld_blk {im : Nat → Int32} {r : xRw} {p o n : Nat} : ldF im (blk (ldF im r p o) o n) (p + o) n = blk (ldF im r p (o + n)) o n := by
  funext j
  unfold ldF blk
  by_cases h : j < n
  · rw [if_pos h, if_pos h]
    show im (p + o + j) = if o + j < o + n then im (p + (o + j)) else r (o + j)
    rw [if_pos (by omega), show p + o + j = p + (o + j) by omega]
  · rw [if_neg h, if_neg h, if_neg h]
theorem ld_off {im : Nat → Int32} {r : xRw} {p o n o2 n2 : Nat} (h : o2 + n2 ≤ o ∨ o + n ≤ o2) : blk (ldF im r p (o + n)) o2 n2 = blk (ldF im r p o) o2 n2 := by
  refine blk_cong (fun j hj => ?_)
  unfold ldF
  by_cases h2 : o2 + j < o
  · rw [if_pos h2, if_pos (by omega)]
  · rw [if_neg h2, if_neg (by omega)]
theorem ld_ovr {im : Nat → Int32} {A : Nat → Nat → Int32} {hl : xHl} {r : xRw} {sc : Nat × Nat × Int32} {p k o n : Nat} (hk : (k, o, n) ∈ [(3, 1, 4), (5, 5, 4), (6, 9, 4), (7, 13, 4), (8, 17, 4), (13, 21, 7), (14, 28, 7)]) : setA (ovr A hl (ldF im r p o) sc) k (ldF im (blk (ldF im r p o) o n) (p + o) n) = ovr A hl (ldF im r p (o + n)) sc := by
  rw [ld_blk]
  have ho : 0 < o := by simp at hk; omega
  have e1 : scal hl (ldF im r p o) sc = scal hl (ldF im r p (o + n)) sc := by
    unfold scal
    rw [show ldF im r p o 0 = im (p + 0) from if_pos ho, show ldF im r p (o + n) 0 = im (p + 0) from if_pos (by omega)]
  funext i
  by_cases q : i = k
  · subst q
    rw [setA_at]
    simp only [List.mem_cons, Prod.mk.injEq, List.not_mem_nil, or_false] at hk
    rcases hk with ⟨h1, h2, h3⟩ | ⟨h1, h2, h3⟩ | ⟨h1, h2, h3⟩ | ⟨h1, h2, h3⟩ | ⟨h1, h2, h3⟩ | ⟨h1, h2, h3⟩ | ⟨h1, h2, h3⟩ <;> (subst h1; subst h2; subst h3; rfl)
  · rw [setA_ne q]
    have z : ∀ k2 o2 n2, ((k2, o2, n2) ∈ [(3, 1, 4), (5, 5, 4), (6, 9, 4), (7, 13, 4), (8, 17, 4), (13, 21, 7), (14, 28, 7)]) → i = k2 → blk (ldF im r p o) o2 n2 = blk (ldF im r p (o + n)) o2 n2 := by
      intro k2 o2 n2 h2 e
      refine (ld_off ?_).symm
      simp at hk h2
      omega
    unfold ovr
    exact ite_c (fun _ => e1) (ite_c (fun _ => rfl) (ite_c (z 3 1 4 (by simp)) (ite_c (fun _ => rfl) (ite_c (z 5 5 4 (by simp)) (ite_c (z 6 9 4 (by simp)) (ite_c (z 7 13 4 (by simp)) (ite_c (z 8 17 4 (by simp)) (ite_c (fun _ => rfl) (ite_c (fun _ => rfl) (ite_c (fun _ => rfl) (ite_c (fun _ => rfl) (ite_c (z 13 21 7 (by simp)) (ite_c (z 14 28 7 (by simp)) (ite_c (fun _ => rfl) rfl))))))))))))))
def shF (im : Nat → Int32) (n : Nat) : Nat → Int32 := fun j => if j < n then im (j + 35) else im j
theorem shF_0 (im : Nat → Int32) : shF im 0 = im := by funext j; unfold shF; rw [if_neg (by omega)]
theorem shF_s (im : Nat → Int32) (n : Nat) : upd (shF im n) n (shF im n (n + 35)) = shF im (n + 1) := by
  funext j
  by_cases e : j = n
  · subst e; rw [upd_at]; unfold shF; rw [if_neg (by omega), if_pos (by omega)]
  · rw [upd_off e]; unfold shF
    by_cases h : j < n
    · rw [if_pos h, if_pos (by omega)]
    · rw [if_neg h, if_neg (by omega)]
/-- the past behind an act: the rows by their age -/
def keepP (im : Nat → Int32) (pm : Nat) (r : xRw) : Nat → Int32 := if pm = 20 then layF (shF im 665) r 665 35 else layF im r (35 * pm) 35
def keepN (pm : Nat) : Nat := if pm = 20 then 20 else pm + 1
def keepF (F : Nat → Int32) (pm : Nat) : Nat → Int32 := upd (mF F 0 (35 * keepN pm)) 49 (nI (keepN pm))
