/-! ===== the reference's tests: what stands open ===== -/
def dpt : List Nat → Nat
  | [] => 0
  | o :: os => dpt os + (if o = 9 ∨ o = 12 then 1 else 0)
def pnd : List Nat → Nat
  | [] => 0
  | o :: os => pnd os + (if o = 12 then 0 else 1)
def cK (k : Nat) : Nat := if k = 9 then 14 else if k = 10 then 12 else 13
def anP (k : Nat) : List Nat → xPS → List Nat × xPS
  | [], s => ([], s)
  | o :: os, s => if o = k then anP k os (putP s (cK k) 0) else (o :: os, s)
def topV : List Nat → Int32
  | [] => -1
  | o :: _ => nI o
def fcP (tp : Nat → Nat) (n : Nat) (os : List Nat) (s : xPS) : Bool × List Nat × xPS := if isW tp n s 5 = true then (if 10 ≤ dpt os then (false, os, failP tp n s 2) else (false, 9 :: os, nextP tp n s)) else if isS tp n s.1 s.2.1 91 = true then (if 10 ≤ dpt os then (false, os, failP tp n s 2) else (false, 12 :: os, nextP tp n s)) else (true, os, cmpP tp n s)
theorem OsR.tl {oa : Nat → Int32} {o : Nat} {os : List Nat} (h : OsR oa (o :: os)) : OsR oa os := fun j hj => by
  have := h (j + 1) (by simp only [List.length_cons]; omega)
  simp only [List.length_cons] at this
  rw [show os.length + 1 - 1 - (j + 1) = os.length - 1 - j by omega] at this
  exact this
theorem OsR.hd {oa : Nat → Int32} {o : Nat} {os : List Nat} (h : OsR oa (o :: os)) : oa os.length = nI o := by
  have := h 0 (by simp)
  simp only [List.length_cons] at this
  exact this
theorem OsR.up {oa : Nat → Int32} {os : List Nat} (h : OsR oa os) (o : Nat) : OsR (upd oa os.length (nI o)) (o :: os) := fun j hj => by
  simp only [List.length_cons] at hj ⊢
  cases j with
  | zero => simp [upd]
  | succ j =>
    have h1 := h j (by omega)
    rw [show os.length + 1 - 1 - (j + 1) = os.length - 1 - j by omega]
    unfold upd
    rw [if_neg (by omega)]
    exact h1
theorem KpA.a34 {A0 A : Nat → Nat → Int32} {sl : Nat} {f : Nat → Int32} (h : KpA A0 A sl) : KpA A0 (setA A 34 f) sl := by
  refine ⟨fun k h1 h2 h3 => ?_, fun j hj => ?_⟩
  · simp only [setA, if_neg h3]; exact h.1 k h1 h2 h3
  · simpa [setA] using h.2 j hj
theorem EnR.a34 {A : Nat → Nat → Int32} {sl : Nat} {E : List Nat} {f : Nat → Int32} (h : EnR A sl E) : EnR (setA A 34 f) sl E := fun j hj => by
  simpa [setA] using h j hj
theorem a34_at {A : Nat → Nat → Int32} {f : Nat → Int32} : setA A 34 f 34 = f := by simp [setA]
theorem an_f {k : Nat} : ∀ {os : List Nat} {s : xPS}, (anP k os s).2.1 = s.1 ∧ (anP k os s).2.2.1 = s.2.1 ∧ (anP k os s).2.2.2.1 = s.2.2.1 ∧ (anP k os s).1.length ≤ os.length ∧ dpt (anP k os s).1 ≤ dpt os
  | [], s => ⟨rfl, rfl, rfl, Nat.le_refl _, Nat.le_refl _⟩
  | o :: os, s => by
    show (if o = k then _ else _ : List Nat × xPS).2.1 = _ ∧ _
    simp only [anP]
    split
    · obtain ⟨f1, f2, f3⟩ := putP_f (s := s) (k := cK k) (op := 0)
      obtain ⟨g1, g2, g3, g4, g5⟩ := an_f (k := k) (os := os) (s := putP s (cK k) 0)
      refine ⟨g1.trans f1, g2.trans f2, g3.trans f3, by simp only [List.length_cons]; omega, ?_⟩
      simp only [dpt]; omega
    · exact ⟨rfl, rfl, rfl, Nat.le_refl _, Nat.le_refl _⟩
theorem Hb.an {n c k : Nat} (hk : k ≠ 12) : ∀ {os : List Nat} {s : xPS}, Hb n (3 * pnd os + c) s → Hb n (3 * pnd (anP k os s).1 + c) (anP k os s).2
  | [], s, h => h
  | o :: os, s, h => by
    simp only [anP]
    split
    · rename_i e
      subst e
      refine Hb.an hk (Hb.put ?_)
      refine h.wk ?_
      simp only [pnd, if_neg hk]; omega
    · exact h
theorem an_n {k o : Nat} {os : List Nat} {s : xPS} (h : o ≠ k) : anP k (o :: os) s = (o :: os, s) := if_neg h
theorem an_y {k : Nat} {os : List Nat} {s : xPS} : anP k (k :: os) s = anP k os (putP s (cK k) 0) := if_pos rfl
theorem isW_pq {tp : Nat → Nat} {n : Nat} {s s' : xPS} {i : Nat} (h1 : s'.1 = s.1) (h2 : s'.2.1 = s.2.1) : isW tp n s' i = isW tp n s i := by unfold isW; rw [h1, h2]
theorem deep_f {tp : Nat → Nat} {n p c : Nat} {s : xPS} (h0 : s.1 = 0) (hp : p = skP tp n s.2.1) : (failP tp n s c).1 = flt s.1 c p := by
  show flP tp n s.1 s.2.1 c = flt s.1 c p
  unfold flP flt
  rw [if_pos h0, if_pos h0, hp]
theorem pnd_c {o : Nat} {os : List Nat} (h : o ≠ 12) : pnd (o :: os) = pnd os + 1 := by simp only [pnd, if_neg h]
