/-! ===== the reference: an act is kept, or taken back ===== -/
theorem lay_1 {A : Nat → Nat → Int32} {hl : xHl} {r : xRw} {sc : Nat × Nat × Int32} {p : Nat} : setA (ovr A hl r sc) 37 (upd (ovr A hl r sc 37) p (r 0)) = ovr (setA A 37 (layF (A 37) r p 1)) hl r sc := by
  rw [ovr_set (by omega)]
  have e := layF_s (A 37) r p 0
  rw [layF_0] at e
  show setA _ 37 (upd (A 37) (p + 0) (r 0)) = _
  rw [e]
theorem lay_n {A : Nat → Nat → Int32} {hl : xHl} {r : xRw} {sc : Nat × Nat × Int32} {p k o n : Nat} (hk : (k, o, n) ∈ [(3, 1, 4), (5, 5, 4), (6, 9, 4), (7, 13, 4), (8, 17, 4), (13, 21, 7), (14, 28, 7)]) : setA (ovr (setA A 37 (layF (A 37) r p o)) hl r sc) 37 (layF (ovr (setA A 37 (layF (A 37) r p o)) hl r sc 37) (ovr (setA A 37 (layF (A 37) r p o)) hl r sc k) (p + o) n) = ovr (setA A 37 (layF (A 37) r p (o + n))) hl r sc := by
  have e1 : ovr (setA A 37 (layF (A 37) r p o)) hl r sc k = blk r o n := by
    simp only [List.mem_cons, Prod.mk.injEq, List.not_mem_nil, or_false] at hk
    rcases hk with ⟨h1, h2, h3⟩ | ⟨h1, h2, h3⟩ | ⟨h1, h2, h3⟩ | ⟨h1, h2, h3⟩ | ⟨h1, h2, h3⟩ | ⟨h1, h2, h3⟩ | ⟨h1, h2, h3⟩ <;> (subst h1; subst h2; subst h3; rfl)
  have e2 : ovr (setA A 37 (layF (A 37) r p o)) hl r sc 37 = layF (A 37) r p o := rfl
  rw [e1, e2, lay_blk, ovr_set (by omega), ovr_set (by omega), setA_up]
theorem ld_1 {im : Nat → Int32} {r : xRw} {p : Nat} : upd r 0 (im p) = ldF im r p 1 := by
  have e := ldF_s im r p 0
  rw [ldF_0] at e
  exact e
theorem ld_n {A : Nat → Nat → Int32} {hl : xHl} {r : xRw} {sc : Nat × Nat × Int32} {p k o n : Nat} (hk : (k, o, n) ∈ [(3, 1, 4), (5, 5, 4), (6, 9, 4), (7, 13, 4), (8, 17, 4), (13, 21, 7), (14, 28, 7)]) : setA (ovr A hl (ldF (A 37) r p o) sc) k (ldF (ovr A hl (ldF (A 37) r p o) sc 37) (ovr A hl (ldF (A 37) r p o) sc k) (p + o) n) = ovr A hl (ldF (A 37) r p (o + n)) sc := by
  have e1 : ovr A hl (ldF (A 37) r p o) sc k = blk (ldF (A 37) r p o) o n := by
    simp only [List.mem_cons, Prod.mk.injEq, List.not_mem_nil, or_false] at hk
    rcases hk with ⟨h1, h2, h3⟩ | ⟨h1, h2, h3⟩ | ⟨h1, h2, h3⟩ | ⟨h1, h2, h3⟩ | ⟨h1, h2, h3⟩ | ⟨h1, h2, h3⟩ | ⟨h1, h2, h3⟩ <;> (subst h1; subst h2; subst h3; rfl)
  have e2 : ovr A hl (ldF (A 37) r p o) sc 37 = A 37 := rfl
  rw [e1, e2, ld_ovr hk]
theorem MW.f49 {G0 G : xHp} {y : Nat} {hl : xHl} {r : xRw} {sc : Nat × Nat × Int32} {A : Nat → Nat → Int32} {F : Nat → Int32} {wa sa : Nat → Int64} {pm : Nat} (h : MW G0 G y hl r sc A F wa sa) (e : F 49 = nI pm) : MW G0 G y hl r sc A (upd F 49 (nI pm)) wa sa := by
  rw [← e, upd_self]; exact h
theorem keepF_n {F : Nat → Int32} {pm : Nat} (h : pm ≠ 20) : keepF F pm = upd (mF F 0 (35 * pm + 35)) 49 (nI (pm + 1)) := by
  unfold keepF keepN; rw [if_neg h]; rfl
theorem keepP_n {im : Nat → Int32} {pm : Nat} {r : xRw} (h : pm ≠ 20) : keepP im pm r = layF im r (35 * pm) 35 := if_neg h
theorem sh_sA {A : Nat → Nat → Int32} {n : Nat} : setA (setA A 37 (shF (A 37) n)) 37 (upd (shF (A 37) n) n (shF (A 37) n (35 + n))) = setA A 37 (shF (A 37) (n + 1)) := by
  rw [setA_up, Nat.add_comm 35 n, shF_s]
