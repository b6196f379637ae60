/-! ===== what the class answers when asked ===== -/
abbrev rvC (rs : List (List Nat)) (c : xCo) : Option (List Nat) := rvI rs c.2.2.1.2.1
def aheadS (rs : List (List Nat)) (c : xCo) (v n w : Int32) : Int32 := if c.2.2.1.1 = true ∧ inR n 401 = true then (if w = nI 0 then (if inR v (c.1.1 0 4) = true then goN c.1.1 (rvC rs c) c.1.2 (thN n) (21 + thN v) else -2) else if w = nI 1 then (if inR v (c.1.1 0 3) = true then goN c.1.1 (rvC rs c) c.1.2 (thN n) (5 + thN v) else -2) else if w = nI 2 then savedS c.1.1 (goN c.1.1 (rvC rs c) c.1.2 (thN n)) else -2) else -2
def doneC (rs : List (List Nat)) (c : xCo) (v : Int32) : Int32 := if inR v (c.1.1 0 4) = true then doneS c.1.1 (rvC rs c) c.1.2 (thN v) else -1
def waitsC (rs : List (List Nat)) (c : xCo) (v : Int32) : Int32 := if inR v (c.1.1 0 4) = true ∧ c.1.2 (21 + thN v) ≤ nI 1 then wtF c.1.1 (rvC rs c) (thN v) 400 c.1.2 else -1
def takeC (rs : List (List Nat)) (c : xCo) (v w : Int32) : Int32 := if inR v (c.1.1 0 3) = true ∧ c.1.2 (5 + thN v) = -1 ∧ inR w 2 = true then (if w = 0 then (tryF (rvC rs c) (candT c.1.1 c.1.2 (thN v)) (-1, savG c.1.1 (rvC rs c) c.1.2) (c.1.1 0 4)).1 else (tryF (rvC rs c) (candT c.1.1 c.1.2 (thN v)) (-1, savG c.1.1 (rvC rs c) c.1.2) (c.1.1 0 4)).2) else -2
def partC (rs : List (List Nat)) (c : xCo) (w : Int32) : Int32 := if c.2.2.1.1 = true ∧ inR w 2 = true then (if w = 0 then (tryF (rvC rs c) (fun s => some (c.1.1, partR c.1.2 s)) (-1, savG c.1.1 (rvC rs c) c.1.2) (c.1.1 0 2)).1 else (tryF (rvC rs c) (fun s => some (c.1.1, partR c.1.2 s)) (-1, savG c.1.1 (rvC rs c) c.1.2) (c.1.1 0 2)).2) else -2
def askInC (rs : List (List Nat)) (c : xCo) (w : Int32) : Int32 := if c.2.2.1.1 = true ∧ inR w 2 = true then (if w = 0 then (tryF (rvC rs c) (candG c.1.1 c.1.2) (-1, savG c.1.1 (rvC rs c) c.1.2) (c.1.1 0 2)).1 else (tryF (rvC rs c) (candG c.1.1 c.1.2) (-1, savG c.1.1 (rvC rs c) c.1.2) (c.1.1 0 2)).2) else -2
def lateC (rs : List (List Nat)) (c : xCo) (v : Int32) : Int32 := if inR v (c.1.1 0 2) = true then lateS c.1.1 (rvC rs c) c.1.2 (thN v) (thN (c.1.2 0)) else -1
def idleC (rs : List (List Nat)) (c : xCo) (v : Int32) : Int32 := if inR v (c.1.1 0 3) = true then idleR c.1.1 (rvC rs c) 400 c.1.2 (17 + thN v) else -1
noncomputable def fitC (rs : List (List Nat)) (c : xCo) : Nat → Bool := fun j => fitB c.1.1 c.2.1.1 c.2.1.2 (rvJ rs j)
noncomputable def ruledC (rs : List (List Nat)) (c : xCo) (w : Int32) : Int32 := if c.2.2.1.1 = true ∧ inR w 2 = true then (if w = 0 then nI (cntF (fitC rs c) (rs.length + 1)) else fstF (fitC rs c) (rs.length + 1)) else -3
noncomputable def lookC (rs : List (List Nat)) (c : xCo) (n w : Int32) : Int32 := if c.2.2.1.1 = true ∧ inR n 400 = true ∧ inR w 2 = true then (match ptF (alF c.1.1 rs (fitC rs c) (thN n) (rs.length + 1)) (c.1.1 0 4) with
  | none => -2
  | some t => if cntF (fitC rs c) (rs.length + 1) = 0 then -2 else if w = 0 then nI t else nI (mxF (alF c.1.1 rs (fitC rs c) (thN n) (rs.length + 1)) t 5)) else -1
def swS (hl : xHl) (r : xRw) (f s : Nat) (B : Int32 × Int32 × Int32) : Int32 × Int32 × Int32 := if B.1 < lessS hl r f s then (lessS hl r f s, nI f, nI s) else B
def swI (hl : xHl) (r : xRw) (f : Nat) : Nat → Int32 × Int32 × Int32 → Int32 × Int32 × Int32 := itF (fun j B => swS hl r f (f + 1 + j) B)
def swO (hl : xHl) (r : xRw) : Nat → Int32 × Int32 × Int32 := fun n => itF (fun f B => swI hl r f (hl 0 3 - (f + 1)) B) n (nI 0, -2, -2)
def swapC (c : xCo) (w : Int32) : Int32 := if c.2.2.1.1 = true ∧ inR w 3 = true then (if w = 0 then (if 0 < (swO c.1.1 c.1.2 (c.1.1 0 3)).1 then (swO c.1.1 c.1.2 (c.1.1 0 3)).1 else -2) else if w = nI 1 then (swO c.1.1 c.1.2 (c.1.1 0 3)).2.1 else (swO c.1.1 c.1.2 (c.1.1 0 3)).2.2) else -1
def saF (hl : xHl) (rv : Option (List Nat)) (g x0 : Nat) : Nat → Nat × Int32 × Int32
  | 0 => (x0, nI 0, nI 0)
  | k + 1 => ((satF (saF hl rv g x0 k).1 g hl (hl 0 4)).1, (saF hl rv g x0 k).2.1 + savedS (satF (saF hl rv g x0 k).1 g hl (hl 0 4)).2 (goN (satF (saF hl rv g x0 k).1 g hl (hl 0 4)).2 rv (clearR hl) 400), (saF hl rv g x0 k).2.2 + nI (cntF (fun t => decide (goN (satF (saF hl rv g x0 k).1 g hl (hl 0 4)).2 rv (clearR hl) 400 (21 + t) = nI 4)) (hl 0 4)))
theorem saF_x {hl : xHl} {rv : Option (List Nat)} {g x0 : Nat} (h : x0 < 2 ^ 31) : ∀ k, (saF hl rv g x0 k).1 < 2 ^ 31
  | 0 => h
  | k + 1 => satF_x (saF_x h k) _
def satC (rs : List (List Nat)) (c : xCo) (m p w : Int32) : Int32 := if c.2.2.1.1 = true ∧ ¬ m < nI 1 ∧ ¬ nI 10 < m ∧ inR p 61 = true ∧ inR w 2 = true then (if w = 0 then (saF c.1.1 (rvC rs c) (thN p + 1) c.2.2.1.2.2 (thN m)).2.1 else (saF c.1.1 (rvC rs c) (thN p + 1) c.2.2.1.2.2 (thN m)).2.2) else -1
/-- what is matched doesn't hang on what was tried before -/
def BR (M : Nat) (B B' : xB) : Prop := B.1 = B'.1 ∧ B.2.1 = B'.2.1 ∧ ∀ j, j < M → B.2.2 j = B'.2.2 j
theorem keep_BR {M : Nat} {B B' : xB} {w mi : Int32} {tr tr' : Nat → Int32} (h : BR M B B') (ht : ∀ j, j < M → tr j = tr' j) : BR M (keepB B w mi tr) (keepB B' w mi tr') := by
  obtain ⟨h1, h2, h3⟩ := h
  unfold keepB
  rw [h1, h2]
  split
  · exact ⟨rfl, rfl, ht⟩
  · exact ⟨h1, h2, h3⟩
def SR (M q : Nat) (S S' : (Nat → Int32) × xB) : Prop := (∀ j, j < q → S.1 j = S'.1 j) ∧ BR M S.2 S'.2
theorem upd_pre {q : Nat} {f g : Nat → Int32} {v : Int32} (h : ∀ j, j < q → f j = g j) : ∀ j, j < q + 1 → upd f q v j = upd g q v j := by
  intro j hj
  by_cases e : j = q
  · subst e; rw [upd_at, upd_at]
  · rw [upd_off e, upd_off e]; exact h j (by omega)
theorem itF_rel {α : Type} {R : α → α → Prop} {f g : Nat → α → α} (h : ∀ i a b, R a b → R (f i a) (g i b)) : ∀ n {a b : α}, R a b → R (itF f n a) (itF g n b)
  | 0, _, _, hr => hr
  | n + 1, _, _, hr => h n _ _ (itF_rel h n hr)
theorem dfs_SR {hl : xHl} {M : Nat} : ∀ (n q : Nat), q + n = M → ∀ {r : xRw} {w mi : Int32} {S S' : (Nat → Int32) × xB}, SR M q S S' → SR M q (dfsM hl n r q w mi S) (dfsM hl n r q w mi S')
  | 0, q, hq, r, w, mi, S, S', h => ⟨h.1, keep_BR h.2 (fun j hj => h.1 j (by omega))⟩
  | n + 1, q, hq, r, w, mi, S, S', h => by
    have h1 : SR M q (dfsM hl n r (q + 1) w mi (upd S.1 q (-1), S.2)) (dfsM hl n r (q + 1) w mi (upd S'.1 q (-1), S'.2)) := by
      have := dfs_SR (hl := hl) (M := M) n (q + 1) (by omega) (r := r) (w := w) (mi := mi) (S := (upd S.1 q (-1), S.2)) (S' := (upd S'.1 q (-1), S'.2)) ⟨upd_pre h.1, h.2⟩
      exact ⟨fun j hj => this.1 j (by omega), this.2⟩
    simp only [dfsM]
    split
    · refine itF_rel (R := SR M q) (fun t A A' hA => ?_) _ h1
      split
      · have := dfs_SR (hl := hl) (M := M) n (q + 1) (by omega) (r := beginR hl r q t) (w := w + nI (hl 6 t)) (mi := mi + nI (effS hl q t)) (S := (upd A.1 q (nI t), A.2)) (S' := (upd A'.1 q (nI t), A'.2)) ⟨upd_pre hA.1, hA.2⟩
        exact ⟨fun j hj => this.1 j (by omega), this.2⟩
      · exact hA
    · exact h1
theorem dfs_any {hl : xHl} {M : Nat} : ∀ (n q : Nat), q + n = M → ∀ {r : xRw} {w mi : Int32} {S S' : (Nat → Int32) × xB}, (-1 : Int32) < w → (∀ j, j < q → S.1 j = S'.1 j) → S.2.1 = -1 → S'.2.1 = -1 → SR M q (dfsM hl n r q w mi S) (dfsM hl n r q w mi S')
  | 0, q, hq, r, w, mi, S, S', hw, h, h1, h2 => by
    refine ⟨h, ?_⟩
    show BR M (keepB S.2 w mi S.1) (keepB S'.2 w mi S'.1)
    unfold keepB
    rw [if_pos (Or.inl (by rw [h1]; exact hw)), if_pos (Or.inl (by rw [h2]; exact hw))]
    exact ⟨rfl, rfl, fun j hj => h j (by omega)⟩
  | n + 1, q, hq, r, w, mi, S, S', hw, h, h1, h2 => by
    have h3 : SR M q (dfsM hl n r (q + 1) w mi (upd S.1 q (-1), S.2)) (dfsM hl n r (q + 1) w mi (upd S'.1 q (-1), S'.2)) := by
      have := dfs_any (hl := hl) (M := M) n (q + 1) (by omega) (r := r) (w := w) (mi := mi) (S := (upd S.1 q (-1), S.2)) (S' := (upd S'.1 q (-1), S'.2)) hw (upd_pre h) h1 h2
      exact ⟨fun j hj => this.1 j (by omega), this.2⟩
    simp only [dfsM]
    split
    · refine itF_rel (R := SR M q) (fun t A A' hA => ?_) _ h3
      split
      · have := dfs_SR (hl := hl) (M := M) n (q + 1) (by omega) (r := beginR hl r q t) (w := w + nI (hl 6 t)) (mi := mi + nI (effS hl q t)) (S := (upd A.1 q (nI t), A.2)) (S' := (upd A'.1 q (nI t), A'.2)) ⟨upd_pre hA.1, hA.2⟩
        exact ⟨fun j hj => this.1 j (by omega), this.2⟩
      · exact hA
    · exact h3
def mtR (hl : xHl) (r : xRw) : xB := (dfsM hl (hl 0 3) r 0 (nI 0) (nI 0) (fun _ => 0, (-1, 0, fun _ => 0))).2
theorem mt_any (hl : xHl) (r : xRw) (tr : Nat → Int32) (a : Int32) (b : Nat → Int32) : BR (hl 0 3) (dfsM hl (hl 0 3) r 0 (nI 0) (nI 0) (tr, (-1, a, b))).2 (mtR hl r) :=
  (dfs_any (hl 0 3) 0 (by omega) (by decide) (fun j hj => absurd hj (by omega)) rfl rfl).2
def matchC (c : xCo) (w : Int32) : Int32 := if c.2.2.1.1 = true ∧ inR w 6 = true then (if w = nI 0 then (mtR c.1.1 c.1.2).1 else if w = nI 1 then (mtR c.1.1 c.1.2).2.1 else if thN w - 2 < c.1.1 0 3 ∧ c.1.2 (5 + (thN w - 2)) = -1 then (mtR c.1.1 c.1.2).2.2 (thN w - 2) else -2) else -3
theorem swI_s (hl : xHl) (r : xRw) (f j : Nat) (B : Int32 × Int32 × Int32) : swI hl r f (j + 1) B = swS hl r f (f + 1 + j) (swI hl r f j B) := rfl
theorem swO_s (hl : xHl) (r : xRw) (f : Nat) : swO hl r (f + 1) = swI hl r f (hl 0 3 - (f + 1)) (swO hl r f) := rfl
