/-! ===== a rule read: tests and clauses ===== -/
def isW (tp : Nat → Nat) (n : Nat) (s : xPS) (i : Nat) : Bool := decide (wiO tp n s.1 s.2.1 (wl i) = some 0)
theorem isW_s {tp : Nat → Nat} {n : Nat} {s : xPS} {i : Nat} (h : isW tp n s i = true) : s.1 = 0 ∧ kdA tp n (skP tp n s.2.1) = 1 := by
  have := wiO_cnt (of_decide_eq_true h)
  exact ⟨this.1, this.2.1⟩
def cmpP (tp : Nat → Nat) (n : Nat) (s : xPS) : xPS := match stpP tp n (sumL tp n 400 none none s) with
  | none => failP tp n (sumL tp n 400 none none s) 0
  | some c => if c < 7 then failP tp n (sumL tp n 400 none none s) 0 else if 60 ≤ (sumL tp n 400 none none s).2.2.1 then failP tp n (sumL tp n 400 none none s) 3 else putP (sumL tp n 400 none none (nextP tp n (cntP (sumL tp n 400 none none s)))) c 0
def clsP (tp : Nat → Nat) (n : Nat) (s : xPS) : xPS := if isS tp n s.1 s.2.1 93 = true then nextP tp n s else failP tp n s 0
/-- a fact (0), a test from its first part (1), from a further one (2), what and joins (3) -/
def rdP (tp : Nat → Nat) (n : Nat) : Nat → Nat → Nat → xPS → xPS
  | 0, _, _, s => s
  | k + 1, m, d, s =>
    if m = 0 then (if isW tp n s 5 = true then (if 10 ≤ d then failP tp n s 2 else putP (rdP tp n k 0 (d + 1) (nextP tp n s)) 14 0) else if isS tp n s.1 s.2.1 91 = true then (if 10 ≤ d then failP tp n s 2 else clsP tp n (rdP tp n k 1 (d + 1) (nextP tp n s))) else cmpP tp n s)
    else if m = 3 then (if isW tp n s 3 = true then rdP tp n k 3 d (putP (rdP tp n k 0 d (nextP tp n s)) 12 0) else s)
    else (if isW tp n (if m = 2 then putP (rdP tp n k 3 d (rdP tp n k 0 d s)) 13 0 else rdP tp n k 3 d (rdP tp n k 0 d s)) 4 = true then rdP tp n k 2 d (nextP tp n (if m = 2 then putP (rdP tp n k 3 d (rdP tp n k 0 d s)) 13 0 else rdP tp n k 3 d (rdP tp n k 0 d s))) else (if m = 2 then putP (rdP tp n k 3 d (rdP tp n k 0 d s)) 13 0 else rdP tp n k 3 d (rdP tp n k 0 d s)))
section RDL
variable {tp : Nat → Nat} {n k d : Nat} {s : xPS}
theorem rd_not (h : isW tp n s 5 = true) (hd : d < 10) : rdP tp n (k + 1) 0 d s = putP (rdP tp n k 0 (d + 1) (nextP tp n s)) 14 0 := by rw [rdP, if_pos rfl, if_pos h, if_neg (by omega)]
theorem rd_deep (h : isW tp n s 5 = true ∨ isS tp n s.1 s.2.1 91 = true) (hd : 10 ≤ d) : rdP tp n (k + 1) 0 d s = failP tp n s 2 := by
  rw [rdP, if_pos rfl]
  by_cases e : isW tp n s 5 = true
  · rw [if_pos e, if_pos hd]
  · rw [if_neg e, if_pos (h.resolve_left e), if_pos hd]
theorem rd_br (h : isW tp n s 5 = false) (h2 : isS tp n s.1 s.2.1 91 = true) (hd : d < 10) : rdP tp n (k + 1) 0 d s = clsP tp n (rdP tp n k 1 (d + 1) (nextP tp n s)) := by rw [rdP, if_pos rfl, if_neg (by rw [h]; decide), if_pos h2, if_neg (by omega)]
theorem rd_cmp (h : isW tp n s 5 = false) (h2 : isS tp n s.1 s.2.1 91 = false) : rdP tp n (k + 1) 0 d s = cmpP tp n s := by rw [rdP, if_pos rfl, if_neg (by rw [h]; decide), if_neg (by rw [h2]; decide)]
theorem rd_and (h : isW tp n s 3 = true) : rdP tp n (k + 1) 3 d s = rdP tp n k 3 d (putP (rdP tp n k 0 d (nextP tp n s)) 12 0) := by rw [rdP, if_neg (by decide), if_pos rfl, if_pos h]
theorem rd_and0 (h : isW tp n s 3 = false) : rdP tp n (k + 1) 3 d s = s := by rw [rdP, if_neg (by decide), if_pos rfl, if_neg (by rw [h]; decide)]
def orP (tp : Nat → Nat) (n k v d : Nat) (s : xPS) : xPS := if v = 0 then rdP tp n k 3 d (rdP tp n k 0 d s) else putP (rdP tp n k 3 d (rdP tp n k 0 d s)) 13 0
theorem rd_test {v : Nat} : rdP tp n (k + 1) (if v = 0 then 1 else 2) d s = if isW tp n (orP tp n k v d s) 4 = true then rdP tp n k 2 d (nextP tp n (orP tp n k v d s)) else orP tp n k v d s := by
  by_cases e : v = 0
  · subst e; simp only [rdP, orP]; simp
  · simp only [rdP, orP, if_neg e]; simp
end RDL
/-- behind it no fault: none before, and no step back -/
def Mo (n : Nat) (s s' : xPS) : Prop := s'.1 = 0 → s.1 = 0 ∧ s.2.1 ≤ s'.2.1 ∧ (s.2.1 ≤ n → s'.2.1 ≤ n)
theorem Mo.rf {n : Nat} {s : xPS} : Mo n s s := fun h => ⟨h, Nat.le_refl _, id⟩
theorem Mo.tr {n : Nat} {s s1 s2 : xPS} (h1 : Mo n s s1) (h2 : Mo n s1 s2) : Mo n s s2 := fun h => by
  obtain ⟨a1, a2, a3⟩ := h2 h
  obtain ⟨b1, b2, b3⟩ := h1 a1
  exact ⟨b1, by omega, fun q => a3 (b3 q)⟩
theorem failP_ne {tp : Nat → Nat} {n : Nat} {s : xPS} {w : Nat} : (failP tp n s w).1 ≠ 0 := by
  unfold failP flP
  simp only
  split
  · omega
  · rename_i h; exact h
theorem at_ge {tp : Nat → Nat} {n pl : Nat} : pl ≤ atA tp n pl := by
  by_cases h : pl ≤ n
  · exact (at_le h).1
  · rw [at_end (by omega)]; omega
theorem Mo.fail {tp : Nat → Nat} {n : Nat} {s : xPS} {w : Nat} : Mo n s (failP tp n s w) := fun h => absurd h failP_ne
theorem Mo.next {tp : Nat → Nat} {n : Nat} {s : xPS} : Mo n s (nextP tp n s) := fun h => by
  have h1 : s.2.1 ≤ skP tp n s.2.1 := by unfold skP; exact (runF_le _ _ _).1
  have h2 := at_ge (tp := tp) (n := n) (pl := skP tp n s.2.1)
  exact ⟨h, by show s.2.1 ≤ atA tp n (skP tp n s.2.1); omega, fun q => (at_le (sk_le q).2).2.1⟩
theorem Mo.put {n : Nat} {s : xPS} {k op : Nat} : Mo n s (putP s k op) := fun h => by
  obtain ⟨a1, a2, a3⟩ := putP_f (s := s) (k := k) (op := op)
  exact ⟨a1.symm.trans h, by omega, fun q => by omega⟩
theorem Mo.putO {n : Nat} {s : xPS} : ∀ {o : Option Nat}, Mo n s (putO s o)
  | none => Mo.rf
  | some _ => Mo.put
theorem Mo.cnt {n : Nat} {s : xPS} : Mo n s (cntP s) := fun h => ⟨h, Nat.le_refl _, id⟩
theorem Mo.val {tp : Nat → Nat} {n : Nat} {s : xPS} : Mo n s (valP tp n s) := by
  unfold valP
  split
  · split
    · exact Mo.fail
    · exact (Mo.cnt.tr Mo.put).tr Mo.next
  · split
    · exact Mo.fail
    · split
      · exact Mo.fail
      · split
        · exact Mo.fail
        · exact (Mo.cnt.tr Mo.put).tr Mo.next
theorem Mo.sum {tp : Nat → Nat} {n : Nat} : ∀ {k : Nat} {iS iT : Option Nat} {s : xPS}, Mo n s (sumL tp n k iS iT s)
  | 0, _, _, _ => Mo.rf
  | k + 1, iS, iT, s => by
    simp only [sumL]
    split
    · exact (Mo.val.tr Mo.putO).tr Mo.putO
    · split
      · exact ((Mo.val.tr Mo.putO).tr Mo.next).tr Mo.sum
      · split
        · exact (((Mo.val.tr Mo.putO).tr Mo.putO).tr Mo.next).tr Mo.sum
        · exact (Mo.val.tr Mo.putO).tr Mo.putO
theorem Mo.cmp {tp : Nat → Nat} {n : Nat} {s : xPS} : Mo n s (cmpP tp n s) := by
  unfold cmpP
  split
  · exact Mo.sum.tr Mo.fail
  · split
    · exact Mo.sum.tr Mo.fail
    · split
      · exact Mo.sum.tr Mo.fail
      · exact (((Mo.sum.tr Mo.cnt).tr Mo.next).tr Mo.sum).tr Mo.put
theorem Mo.cls {tp : Nat → Nat} {n : Nat} {s : xPS} : Mo n s (clsP tp n s) := by
  unfold clsP
  split
  · exact Mo.next
  · exact Mo.fail
theorem Mo.rd {tp : Nat → Nat} {n : Nat} : ∀ {k m d : Nat} {s : xPS}, Mo n s (rdP tp n k m d s)
  | 0, _, _, _ => Mo.rf
  | k + 1, m, d, s => by
    simp only [rdP]
    split
    · split
      · split
        · exact Mo.fail
        · exact (Mo.next.tr Mo.rd).tr Mo.put
      · split
        · split
          · exact Mo.fail
          · exact (Mo.next.tr Mo.rd).tr Mo.cls
        · exact Mo.cmp
    · split
      · split
        · exact ((Mo.next.tr Mo.rd).tr Mo.put).tr Mo.rd
        · exact Mo.rf
      · have h : Mo n s (if m = 2 then putP (rdP tp n k 3 d (rdP tp n k 0 d s)) 13 0 else rdP tp n k 3 d (rdP tp n k 0 d s)) := by
          split
          · exact (Mo.rd.tr Mo.rd).tr Mo.put
          · exact Mo.rd.tr Mo.rd
        generalize (if m = 2 then putP (rdP tp n k 3 d (rdP tp n k 0 d s)) 13 0 else rdP tp n k 3 d (rdP tp n k 0 d s)) = q at h ⊢
        split
        · exact (h.tr Mo.next).tr Mo.rd
        · exact h
theorem next_gt {tp : Nat → Nat} {n : Nat} {s : xPS} (h : s.2.1 ≤ n) (hk : kdA tp n (skP tp n s.2.1) ≠ 0) : s.2.1 + 1 ≤ (nextP tp n s).2.1 ∧ (nextP tp n s).2.1 ≤ n ∧ s.2.1 < n := by
  have h1 := sk_le (tp := tp) h
  have h2 := at_le (tp := tp) h1.2
  have h3 : skP tp n s.2.1 < n := Nat.lt_of_not_le (fun q => hk (kd_end q))
  have h4 := h2.2.2 h3
  show s.2.1 + 1 ≤ atA tp n (skP tp n s.2.1) ∧ atA tp n (skP tp n s.2.1) ≤ n ∧ _
  omega
def nd (n k c : Nat) (s : xPS) : Prop := c ≤ k ∧ (s.1 = 0 → 2 * (n - s.2.1) + c ≤ k)
def rcP (tp : Nat → Nat) (n : Nat) (s : xPS) (bf : Nat) : xPS := if isW tp n s 1 = false then failP tp n s 0 else if 12 ≤ bf then failP tp n s 4 else if isW tp n (sumL tp n 400 none none (nextP tp n s)) 2 = true then putP (rdP tp n 802 1 0 (nextP tp n (sumL tp n 400 none none (nextP tp n s)))) 16 0 else putP (sumL tp n 400 none none (nextP tp n s)) 15 0
def rrL (tp : Nat → Nat) (n : Nat) : Nat → Nat → xPS → xPS
  | 0, _, s => s
  | k + 1, bf, s => if isS tp n s.1 s.2.1 59 = true then rrL tp n k (bf + 1) (rcP tp n (nextP tp n s) bf) else s
def rulP (tp : Nat → Nat) (n : Nat) : xPS := (eeP tp n (rrL tp n 12 1 (rcP tp n (0, 0, 0, []) 0)).1 (rrL tp n 12 1 (rcP tp n (0, 0, 0, []) 0)).2.1, (rrL tp n 12 1 (rcP tp n (0, 0, 0, []) 0)).2)
theorem RRd.p {G0 G : xHp} {b tx n : Nat} {tp : Nat → Nat} {s : xPS} (hW : RRd G0 G b tx n tp s) : s.2.1 ≤ n ∧ n ≤ 400 := ⟨hW.1.2.1, hW.1.1⟩
theorem Mo.orp {tp : Nat → Nat} {n k v d : Nat} {s : xPS} : Mo n s (orP tp n k v d s) := by
  by_cases e : v = 0
  · rw [show orP tp n k v d s = rdP tp n k 3 d (rdP tp n k 0 d s) from if_pos e]; exact Mo.rd.tr Mo.rd
  · rw [show orP tp n k v d s = putP (rdP tp n k 3 d (rdP tp n k 0 d s)) 13 0 from if_neg e]; exact (Mo.rd.tr Mo.rd).tr Mo.put
