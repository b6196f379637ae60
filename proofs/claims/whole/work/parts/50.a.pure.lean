/-! ===== the reference: its world ===== -/
/-- a skill's cell: none is -1; before any hall is told all cells are 0, told here as 999999 -/
def skJ (n : Nat) : Int32 := if n = 0 then -1 else if n = 999999 then 0 else nI n
abbrev modO (y : Nat) (F : Nat → Int32) : xE := eO 12 [.int (F 0), .ref (y + 1), .ref (y + 2), .ref (y + 3), .ref (y + 4), .ref (y + 5), .ref (y + 6), .ref (y + 7), .ref (y + 8), .ref (y + 9), .ref (y + 10), .ref (y + 11), .ref (y + 12), .ref (y + 13), .ref (y + 14), .ref (y + 15), .ref (y + 16), .ref (y + 17), .ref (y + 18), .ref (y + 19), .ref (y + 20), .ref (y + 21), .ref (y + 22), .ref (y + 23), .ref (y + 24), .ref (y + 25), .ref (y + 26), .int (F 27), .int (F 28), .int (F 29), .int (F 30), .int (F 31), .int (F 32), .int (F 33), .int (F 34), .int (F 35), .int (F 36), .ref (y + 27), .ref (y + 28), .ref (y + 29), .ref (y + 30), .ref (y + 31), .ref (y + 32), .ref (y + 33), .ref (y + 34), .ref (y + 35), .ref (y + 36), .ref (y + 37), .ref (y + 38), .int (F 49), .int (F 50), .int (F 51), .int (F 52), .int (F 53), .ref (y + 39), .ref (y + 40), .ref (y + 41), .int (F 57), .int (F 58), .ref (y + 42), .ref (y + 43), .ref (y + 44), .ref (y + 45), .int (F 63), .int (F 64)]
def mln : Nat → Nat
  | 1 => 9
  | 2 => 4
  | 3 => 4
  | 4 => 16
  | 5 => 4
  | 6 => 4
  | 7 => 4
  | 8 => 4
  | 9 => 7
  | 10 => 7
  | 11 => 7
  | 12 => 7
  | 13 => 7
  | 14 => 7
  | 15 => 10
  | 16 => 10
  | 17 => 10
  | 18 => 4
  | 19 => 5
  | 20 => 4
  | 21 => 4
  | 22 => 16
  | 23 => 7
  | 24 => 7
  | 25 => 7
  | 26 => 7
  | 27 => 400
  | 28 => 1800
  | 29 => 1800
  | 30 => 6
  | 31 => 72
  | 32 => 72
  | 33 => 72
  | 34 => 402
  | 35 => 12
  | 36 => 300
  | 37 => 700
  | 38 => 1
  | 39 => 4
  | 40 => 4
  | 41 => 4
  | 42 => 7
  | 43 => 35
  | 44 => 4500
  | 45 => 4
  | _ => 0
def mty (k : Nat) : Nat := if k = 27 then 1 else if k = 45 then 2 else 0
def mcell (k : Nat) (A : Nat → Nat → Int32) (wa sa : Nat → Int64) : xE := if k = 35 then eJ 12 wa else if k = 36 then eJ 300 sa else eI (mty k) (mln k) (A k)
def blk (r : xRw) (o n : Nat) : Nat → Int32 := fun j => if j < n then r (o + j) else 0
def scal (hl : xHl) (r : xRw) (sc : Nat × Nat × Int32) : Nat → Int32 := fun j => if j < 5 then nI (hl 0 j) else if j = 5 then r 0 else if j = 6 then nI sc.1 else if j = 7 then nI sc.2.1 else sc.2.2
def ovr (A : Nat → Nat → Int32) (hl : xHl) (r : xRw) (sc : Nat × Nat × Int32) (k : Nat) : Nat → Int32 := if k = 1 then scal hl r sc else if k = 2 then nF (hl 1) else if k = 3 then blk r 1 4 else if k = 4 then (fun j => skJ (hl 3 j)) else if k = 5 then blk r 5 4 else if k = 6 then blk r 9 4 else if k = 7 then blk r 13 4 else if k = 8 then blk r 17 4 else if k = 9 then nF (hl 4) else if k = 10 then nF (hl 5) else if k = 11 then nF (hl 6) else if k = 12 then nF (hl 7) else if k = 13 then blk r 21 7 else if k = 14 then blk r 28 7 else if k = 18 then nF (hl 2) else A k
def MW (G0 G : xHp) (y : Nat) (hl : xHl) (r : xRw) (sc : Nat × Nat × Int32) (A : Nat → Nat → Int32) (F : Nat → Int32) (wa sa : Nat → Int64) : Prop := G y = some (modO y F) ∧ (∀ k, 1 ≤ k → k ≤ 45 → G (y + k) = some (mcell k (ovr A hl r sc) wa sa)) ∧ (∀ a, ¬ (y ≤ a ∧ a < y + 46) → G a = G0 a) ∧ ∀ i j, hl i j < 1000000
def setA (A : Nat → Nat → Int32) (k : Nat) (f : Nat → Int32) : Nat → Nat → Int32 := fun i => if i = k then f else A i
theorem blk_at {r : xRw} {o n j : Nat} (h : j < n) : blk r o n j = r (o + j) := if_pos h
theorem blk_upd {r : xRw} {o n j : Nat} {v : Int32} (h : j < n) : upd (blk r o n) j v = blk (upd r (o + j) v) o n := by
  funext i
  unfold blk upd
  by_cases e : i = j
  · subst e; simp [h]
  · by_cases h2 : i < n
    · simp [e, h2, show o + i ≠ o + j by omega]
    · simp [e, h2]
theorem blk_off {r : xRw} {o n j : Nat} {v : Int32} (h : j < o ∨ o + n ≤ j) : blk (upd r j v) o n = blk r o n := by
  funext i
  unfold blk upd
  by_cases h2 : i < n
  · simp [h2, show o + i ≠ j by omega]
  · simp [h2]
section MWL
variable {G0 G : xHp} {y : Nat} {hl hl' : xHl} {r r' : xRw} {sc sc' : Nat × Nat × Int32} {A A' : Nat → Nat → Int32} {F F' : Nat → Int32} {wa sa wa' sa' : Nat → Int64}
theorem MW.fld (h : MW G0 G y hl r sc A F wa sa) (F' : Nat → Int32) : MW G0 (xup G y (modO y F')) y hl r sc A F' wa sa := by
  obtain ⟨h1, h2, h3, h4⟩ := h
  exact ⟨xup_eq, fun k a b => xup_of (by omega) (h2 k a b), fun a ha => by rw [xup_ne (by omega)]; exact h3 a ha, h4⟩
theorem MW.cell (h : MW G0 G y hl r sc A F wa sa) (k : Nat) (hk : 1 ≤ k) (hk2 : k ≤ 45) {e : xE} (he : mcell k (ovr A' hl' r' sc') wa' sa' = e) (ho : ∀ i, 1 ≤ i → i ≤ 45 → i ≠ k → mcell i (ovr A' hl' r' sc') wa' sa' = mcell i (ovr A hl r sc) wa sa) (hl4 : ∀ i j, hl' i j < 1000000) : MW G0 (xup G (y + k) e) y hl' r' sc' A' F wa' sa' := by
  obtain ⟨h1, h2, h3, h4⟩ := h
  refine ⟨xup_of (by omega) h1, fun i a b => ?_, fun a ha => by rw [xup_ne (by omega)]; exact h3 a ha, hl4⟩
  by_cases q : i = k
  · subst q; rw [xup_eq, he]
  · rw [xup_ne (by omega), h2 i a b, ho i a b q]
theorem MW.hB (h : MW G0 G y hl r sc A F wa sa) : ∀ i j, hl i j < 1000000 := h.2.2.2
/-- another array of the rest -/
theorem MW.arr (h : MW G0 G y hl r sc A F wa sa) (k : Nat) (hk : (15 ≤ k ∧ k ≤ 17) ∨ (19 ≤ k ∧ k ≤ 34) ∨ (37 ≤ k ∧ k ≤ 45)) (f : Nat → Int32) : MW G0 (xup G (y + k) (eI (mty k) (mln k) f)) y hl r sc (setA A k f) F wa sa := by
  refine h.cell k (by omega) (by omega) ?_ (fun i a b q => ?_) h.2.2.2
  · unfold mcell ovr setA
    simp only [show k ≠ 35 by omega, show k ≠ 36 by omega, show k ≠ 1 by omega, show k ≠ 2 by omega, show k ≠ 3 by omega, show k ≠ 4 by omega, show k ≠ 5 by omega, show k ≠ 6 by omega, show k ≠ 7 by omega, show k ≠ 8 by omega, show k ≠ 9 by omega, show k ≠ 10 by omega, show k ≠ 11 by omega, show k ≠ 12 by omega, show k ≠ 13 by omega, show k ≠ 14 by omega, show k ≠ 18 by omega, if_false, if_true]
  · have e : ovr (setA A k f) hl r sc i = ovr A hl r sc i := by unfold ovr setA; simp only [if_neg q]
    unfold mcell; rw [e]
theorem MW.lw (h : MW G0 G y hl r sc A F wa sa) (f : Nat → Int64) : MW G0 (xup G (y + 35) (eJ 12 f)) y hl r sc A F f sa := by
  refine h.cell 35 (by omega) (by omega) rfl (fun i a b q => ?_) h.2.2.2
  unfold mcell; rw [if_neg q, if_neg q]
theorem MW.ls (h : MW G0 G y hl r sc A F wa sa) (f : Nat → Int64) : MW G0 (xup G (y + 36) (eJ 300 f)) y hl r sc A F wa f := by
  refine h.cell 36 (by omega) (by omega) rfl (fun i a b q => ?_) h.2.2.2
  unfold mcell
  by_cases e : i = 35
  · rw [if_pos e, if_pos e]
  · rw [if_neg e, if_neg e, if_neg q, if_neg q]
theorem ite_c {c : Prop} [Decidable c] {a a' b b' : Nat → Int32} (h1 : c → a = a') (h2 : b = b') : (if c then a else b) = if c then a' else b' := by
  by_cases h : c
  · rw [if_pos h, if_pos h, h1 h]
  · rw [if_neg h, if_neg h, h2]
theorem ovr_r {v : Int32} {j : Nat} {k : Nat} (h : ∀ o n q, ((q, o, n) ∈ [(3, 1, 4), (5, 5, 4), (6, 9, 4), (7, 13, 4), (8, 17, 4), (13, 21, 7), (14, 28, 7)]) → q ≠ k → (j < o ∨ o + n ≤ j)) (h0 : j ≠ 0) : ∀ i, i ≠ k → ovr A hl (upd r j v) sc i = ovr A hl r sc i := by
  intro i hi
  have e1 : scal hl (upd r j v) sc = scal hl r sc := by unfold scal; rw [upd_off (Ne.symm h0)]
  unfold ovr
  exact ite_c (fun _ => e1) (ite_c (fun _ => rfl) (ite_c (fun e => blk_off (h 1 4 3 (by simp) (fun z => hi (e.trans z)))) (ite_c (fun _ => rfl) (ite_c (fun e => blk_off (h 5 4 5 (by simp) (fun z => hi (e.trans z)))) (ite_c (fun e => blk_off (h 9 4 6 (by simp) (fun z => hi (e.trans z)))) (ite_c (fun e => blk_off (h 13 4 7 (by simp) (fun z => hi (e.trans z)))) (ite_c (fun e => blk_off (h 17 4 8 (by simp) (fun z => hi (e.trans z)))) (ite_c (fun _ => rfl) (ite_c (fun _ => rfl) (ite_c (fun _ => rfl) (ite_c (fun _ => rfl) (ite_c (fun e => blk_off (h 21 7 13 (by simp) (fun z => hi (e.trans z)))) (ite_c (fun e => blk_off (h 28 7 14 (by simp) (fun z => hi (e.trans z)))) (ite_c (fun _ => rfl) rfl))))))))))))))
theorem MW.s3 (h : MW G0 G y hl r sc A F wa sa) (t : Nat) (v : Int32) (ht : t < 4) : MW G0 (xup G (y + 3) (eI 0 4 (upd (blk r 1 4) t v))) y hl (upd r (1 + t) v) sc A F wa sa := by
  refine h.cell 3 (by omega) (by omega) (by rw [blk_upd ht]; rfl) (fun i a b q => ?_) h.2.2.2
  have := ovr_r (hl := hl) (r := r) (A := A) (sc := sc) (v := v) (j := 1 + t) (k := 3) (fun o n q hq hn => by simp at hq; omega) (by omega) i q
  unfold mcell; rw [this]
theorem MW.s5 (h : MW G0 G y hl r sc A F wa sa) (t : Nat) (v : Int32) (ht : t < 4) : MW G0 (xup G (y + 5) (eI 0 4 (upd (blk r 5 4) t v))) y hl (upd r (5 + t) v) sc A F wa sa := by
  refine h.cell 5 (by omega) (by omega) (by rw [blk_upd ht]; rfl) (fun i a b q => ?_) h.2.2.2
  have := ovr_r (hl := hl) (r := r) (A := A) (sc := sc) (v := v) (j := 5 + t) (k := 5) (fun o n q hq hn => by simp at hq; omega) (by omega) i q
  unfold mcell; rw [this]
theorem MW.s6 (h : MW G0 G y hl r sc A F wa sa) (t : Nat) (v : Int32) (ht : t < 4) : MW G0 (xup G (y + 6) (eI 0 4 (upd (blk r 9 4) t v))) y hl (upd r (9 + t) v) sc A F wa sa := by
  refine h.cell 6 (by omega) (by omega) (by rw [blk_upd ht]; rfl) (fun i a b q => ?_) h.2.2.2
  have := ovr_r (hl := hl) (r := r) (A := A) (sc := sc) (v := v) (j := 9 + t) (k := 6) (fun o n q hq hn => by simp at hq; omega) (by omega) i q
  unfold mcell; rw [this]
theorem MW.s7 (h : MW G0 G y hl r sc A F wa sa) (t : Nat) (v : Int32) (ht : t < 4) : MW G0 (xup G (y + 7) (eI 0 4 (upd (blk r 13 4) t v))) y hl (upd r (13 + t) v) sc A F wa sa := by
  refine h.cell 7 (by omega) (by omega) (by rw [blk_upd ht]; rfl) (fun i a b q => ?_) h.2.2.2
  have := ovr_r (hl := hl) (r := r) (A := A) (sc := sc) (v := v) (j := 13 + t) (k := 7) (fun o n q hq hn => by simp at hq; omega) (by omega) i q
  unfold mcell; rw [this]
theorem MW.s8 (h : MW G0 G y hl r sc A F wa sa) (t : Nat) (v : Int32) (ht : t < 4) : MW G0 (xup G (y + 8) (eI 0 4 (upd (blk r 17 4) t v))) y hl (upd r (17 + t) v) sc A F wa sa := by
  refine h.cell 8 (by omega) (by omega) (by rw [blk_upd ht]; rfl) (fun i a b q => ?_) h.2.2.2
  have := ovr_r (hl := hl) (r := r) (A := A) (sc := sc) (v := v) (j := 17 + t) (k := 8) (fun o n q hq hn => by simp at hq; omega) (by omega) i q
  unfold mcell; rw [this]
theorem MW.s13 (h : MW G0 G y hl r sc A F wa sa) (t : Nat) (v : Int32) (ht : t < 7) : MW G0 (xup G (y + 13) (eI 0 7 (upd (blk r 21 7) t v))) y hl (upd r (21 + t) v) sc A F wa sa := by
  refine h.cell 13 (by omega) (by omega) (by rw [blk_upd ht]; rfl) (fun i a b q => ?_) h.2.2.2
  have := ovr_r (hl := hl) (r := r) (A := A) (sc := sc) (v := v) (j := 21 + t) (k := 13) (fun o n q hq hn => by simp at hq; omega) (by omega) i q
  unfold mcell; rw [this]
theorem MW.s14 (h : MW G0 G y hl r sc A F wa sa) (t : Nat) (v : Int32) (ht : t < 7) : MW G0 (xup G (y + 14) (eI 0 7 (upd (blk r 28 7) t v))) y hl (upd r (28 + t) v) sc A F wa sa := by
  refine h.cell 14 (by omega) (by omega) (by rw [blk_upd ht]; rfl) (fun i a b q => ?_) h.2.2.2
  have := ovr_r (hl := hl) (r := r) (A := A) (sc := sc) (v := v) (j := 28 + t) (k := 14) (fun o n q hq hn => by simp at hq; omega) (by omega) i q
  unfold mcell; rw [this]
theorem MW.s1m (h : MW G0 G y hl r sc A F wa sa) (v : Int32) : MW G0 (xup G (y + 1) (eI 0 9 (upd (scal hl r sc) 5 v))) y hl (upd r 0 v) sc A F wa sa := by
  have e : upd (scal hl r sc) 5 v = scal hl (upd r 0 v) sc := by
    funext j
    unfold upd scal
    by_cases q : j = 5
    · subst q; simp
    · simp [q]
  refine h.cell 1 (by omega) (by omega) (by rw [e]; rfl) (fun i a b q => ?_) h.2.2.2
  have e2 : ovr A hl (upd r 0 v) sc i = ovr A hl r sc i := by
    have z : ∀ o n, 0 < o → blk (upd r 0 v) o n = blk r o n := fun o n ho => blk_off (Or.inl ho)
    unfold ovr
    exact ite_c (fun e => absurd e q) (ite_c (fun _ => rfl) (ite_c (fun _ => z 1 4 (by decide)) (ite_c (fun _ => rfl) (ite_c (fun _ => z 5 4 (by decide)) (ite_c (fun _ => z 9 4 (by decide)) (ite_c (fun _ => z 13 4 (by decide)) (ite_c (fun _ => z 17 4 (by decide)) (ite_c (fun _ => rfl) (ite_c (fun _ => rfl) (ite_c (fun _ => rfl) (ite_c (fun _ => rfl) (ite_c (fun _ => z 21 7 (by decide)) (ite_c (fun _ => z 28 7 (by decide)) (ite_c (fun _ => rfl) rfl))))))))))))))
  unfold mcell; rw [e2]
theorem MW.c1 (h : MW G0 G y hl r sc A F wa sa) : G (y + 1) = some (eI 0 9 (scal hl r sc)) := h.2.1 1 (by decide) (by decide)
theorem MW.c2 (h : MW G0 G y hl r sc A F wa sa) : G (y + 2) = some (eI 0 4 (nF (hl 1))) := h.2.1 2 (by decide) (by decide)
theorem MW.c3 (h : MW G0 G y hl r sc A F wa sa) : G (y + 3) = some (eI 0 4 (blk r 1 4)) := h.2.1 3 (by decide) (by decide)
theorem MW.c4 (h : MW G0 G y hl r sc A F wa sa) : G (y + 4) = some (eI 0 16 (fun j => skJ (hl 3 j))) := h.2.1 4 (by decide) (by decide)
theorem MW.c5 (h : MW G0 G y hl r sc A F wa sa) : G (y + 5) = some (eI 0 4 (blk r 5 4)) := h.2.1 5 (by decide) (by decide)
theorem MW.c6 (h : MW G0 G y hl r sc A F wa sa) : G (y + 6) = some (eI 0 4 (blk r 9 4)) := h.2.1 6 (by decide) (by decide)
theorem MW.c7 (h : MW G0 G y hl r sc A F wa sa) : G (y + 7) = some (eI 0 4 (blk r 13 4)) := h.2.1 7 (by decide) (by decide)
theorem MW.c8 (h : MW G0 G y hl r sc A F wa sa) : G (y + 8) = some (eI 0 4 (blk r 17 4)) := h.2.1 8 (by decide) (by decide)
theorem MW.c9 (h : MW G0 G y hl r sc A F wa sa) : G (y + 9) = some (eI 0 7 (nF (hl 4))) := h.2.1 9 (by decide) (by decide)
theorem MW.c10 (h : MW G0 G y hl r sc A F wa sa) : G (y + 10) = some (eI 0 7 (nF (hl 5))) := h.2.1 10 (by decide) (by decide)
theorem MW.c11 (h : MW G0 G y hl r sc A F wa sa) : G (y + 11) = some (eI 0 7 (nF (hl 6))) := h.2.1 11 (by decide) (by decide)
theorem MW.c12 (h : MW G0 G y hl r sc A F wa sa) : G (y + 12) = some (eI 0 7 (nF (hl 7))) := h.2.1 12 (by decide) (by decide)
theorem MW.c13 (h : MW G0 G y hl r sc A F wa sa) : G (y + 13) = some (eI 0 7 (blk r 21 7)) := h.2.1 13 (by decide) (by decide)
theorem MW.c14 (h : MW G0 G y hl r sc A F wa sa) : G (y + 14) = some (eI 0 7 (blk r 28 7)) := h.2.1 14 (by decide) (by decide)
theorem MW.c15 (h : MW G0 G y hl r sc A F wa sa) : G (y + 15) = some (eI 0 10 (A 15)) := h.2.1 15 (by decide) (by decide)
theorem MW.a15 (h : MW G0 G y hl r sc A F wa sa) (f : Nat → Int32) : MW G0 (xup G (y + 15) (eI 0 10 f)) y hl r sc (setA A 15 f) F wa sa := h.arr 15 (by omega) f
theorem MW.c16 (h : MW G0 G y hl r sc A F wa sa) : G (y + 16) = some (eI 0 10 (A 16)) := h.2.1 16 (by decide) (by decide)
theorem MW.a16 (h : MW G0 G y hl r sc A F wa sa) (f : Nat → Int32) : MW G0 (xup G (y + 16) (eI 0 10 f)) y hl r sc (setA A 16 f) F wa sa := h.arr 16 (by omega) f
theorem MW.c17 (h : MW G0 G y hl r sc A F wa sa) : G (y + 17) = some (eI 0 10 (A 17)) := h.2.1 17 (by decide) (by decide)
theorem MW.a17 (h : MW G0 G y hl r sc A F wa sa) (f : Nat → Int32) : MW G0 (xup G (y + 17) (eI 0 10 f)) y hl r sc (setA A 17 f) F wa sa := h.arr 17 (by omega) f
theorem MW.c18 (h : MW G0 G y hl r sc A F wa sa) : G (y + 18) = some (eI 0 4 (nF (hl 2))) := h.2.1 18 (by decide) (by decide)
theorem MW.c19 (h : MW G0 G y hl r sc A F wa sa) : G (y + 19) = some (eI 0 5 (A 19)) := h.2.1 19 (by decide) (by decide)
theorem MW.a19 (h : MW G0 G y hl r sc A F wa sa) (f : Nat → Int32) : MW G0 (xup G (y + 19) (eI 0 5 f)) y hl r sc (setA A 19 f) F wa sa := h.arr 19 (by omega) f
theorem MW.c20 (h : MW G0 G y hl r sc A F wa sa) : G (y + 20) = some (eI 0 4 (A 20)) := h.2.1 20 (by decide) (by decide)
theorem MW.a20 (h : MW G0 G y hl r sc A F wa sa) (f : Nat → Int32) : MW G0 (xup G (y + 20) (eI 0 4 f)) y hl r sc (setA A 20 f) F wa sa := h.arr 20 (by omega) f
theorem MW.c21 (h : MW G0 G y hl r sc A F wa sa) : G (y + 21) = some (eI 0 4 (A 21)) := h.2.1 21 (by decide) (by decide)
theorem MW.a21 (h : MW G0 G y hl r sc A F wa sa) (f : Nat → Int32) : MW G0 (xup G (y + 21) (eI 0 4 f)) y hl r sc (setA A 21 f) F wa sa := h.arr 21 (by omega) f
theorem MW.c22 (h : MW G0 G y hl r sc A F wa sa) : G (y + 22) = some (eI 0 16 (A 22)) := h.2.1 22 (by decide) (by decide)
theorem MW.a22 (h : MW G0 G y hl r sc A F wa sa) (f : Nat → Int32) : MW G0 (xup G (y + 22) (eI 0 16 f)) y hl r sc (setA A 22 f) F wa sa := h.arr 22 (by omega) f
theorem MW.c23 (h : MW G0 G y hl r sc A F wa sa) : G (y + 23) = some (eI 0 7 (A 23)) := h.2.1 23 (by decide) (by decide)
theorem MW.a23 (h : MW G0 G y hl r sc A F wa sa) (f : Nat → Int32) : MW G0 (xup G (y + 23) (eI 0 7 f)) y hl r sc (setA A 23 f) F wa sa := h.arr 23 (by omega) f
theorem MW.c24 (h : MW G0 G y hl r sc A F wa sa) : G (y + 24) = some (eI 0 7 (A 24)) := h.2.1 24 (by decide) (by decide)
theorem MW.a24 (h : MW G0 G y hl r sc A F wa sa) (f : Nat → Int32) : MW G0 (xup G (y + 24) (eI 0 7 f)) y hl r sc (setA A 24 f) F wa sa := h.arr 24 (by omega) f
theorem MW.c25 (h : MW G0 G y hl r sc A F wa sa) : G (y + 25) = some (eI 0 7 (A 25)) := h.2.1 25 (by decide) (by decide)
theorem MW.a25 (h : MW G0 G y hl r sc A F wa sa) (f : Nat → Int32) : MW G0 (xup G (y + 25) (eI 0 7 f)) y hl r sc (setA A 25 f) F wa sa := h.arr 25 (by omega) f
theorem MW.c26 (h : MW G0 G y hl r sc A F wa sa) : G (y + 26) = some (eI 0 7 (A 26)) := h.2.1 26 (by decide) (by decide)
theorem MW.a26 (h : MW G0 G y hl r sc A F wa sa) (f : Nat → Int32) : MW G0 (xup G (y + 26) (eI 0 7 f)) y hl r sc (setA A 26 f) F wa sa := h.arr 26 (by omega) f
theorem MW.c27 (h : MW G0 G y hl r sc A F wa sa) : G (y + 27) = some (eI 1 400 (A 27)) := h.2.1 27 (by decide) (by decide)
theorem MW.a27 (h : MW G0 G y hl r sc A F wa sa) (f : Nat → Int32) : MW G0 (xup G (y + 27) (eI 1 400 f)) y hl r sc (setA A 27 f) F wa sa := h.arr 27 (by omega) f
theorem MW.c28 (h : MW G0 G y hl r sc A F wa sa) : G (y + 28) = some (eI 0 1800 (A 28)) := h.2.1 28 (by decide) (by decide)
theorem MW.a28 (h : MW G0 G y hl r sc A F wa sa) (f : Nat → Int32) : MW G0 (xup G (y + 28) (eI 0 1800 f)) y hl r sc (setA A 28 f) F wa sa := h.arr 28 (by omega) f
theorem MW.c29 (h : MW G0 G y hl r sc A F wa sa) : G (y + 29) = some (eI 0 1800 (A 29)) := h.2.1 29 (by decide) (by decide)
theorem MW.a29 (h : MW G0 G y hl r sc A F wa sa) (f : Nat → Int32) : MW G0 (xup G (y + 29) (eI 0 1800 f)) y hl r sc (setA A 29 f) F wa sa := h.arr 29 (by omega) f
theorem MW.c30 (h : MW G0 G y hl r sc A F wa sa) : G (y + 30) = some (eI 0 6 (A 30)) := h.2.1 30 (by decide) (by decide)
theorem MW.a30 (h : MW G0 G y hl r sc A F wa sa) (f : Nat → Int32) : MW G0 (xup G (y + 30) (eI 0 6 f)) y hl r sc (setA A 30 f) F wa sa := h.arr 30 (by omega) f
theorem MW.c31 (h : MW G0 G y hl r sc A F wa sa) : G (y + 31) = some (eI 0 72 (A 31)) := h.2.1 31 (by decide) (by decide)
theorem MW.a31 (h : MW G0 G y hl r sc A F wa sa) (f : Nat → Int32) : MW G0 (xup G (y + 31) (eI 0 72 f)) y hl r sc (setA A 31 f) F wa sa := h.arr 31 (by omega) f
theorem MW.c32 (h : MW G0 G y hl r sc A F wa sa) : G (y + 32) = some (eI 0 72 (A 32)) := h.2.1 32 (by decide) (by decide)
theorem MW.a32 (h : MW G0 G y hl r sc A F wa sa) (f : Nat → Int32) : MW G0 (xup G (y + 32) (eI 0 72 f)) y hl r sc (setA A 32 f) F wa sa := h.arr 32 (by omega) f
theorem MW.c33 (h : MW G0 G y hl r sc A F wa sa) : G (y + 33) = some (eI 0 72 (A 33)) := h.2.1 33 (by decide) (by decide)
theorem MW.a33 (h : MW G0 G y hl r sc A F wa sa) (f : Nat → Int32) : MW G0 (xup G (y + 33) (eI 0 72 f)) y hl r sc (setA A 33 f) F wa sa := h.arr 33 (by omega) f
theorem MW.c34 (h : MW G0 G y hl r sc A F wa sa) : G (y + 34) = some (eI 0 402 (A 34)) := h.2.1 34 (by decide) (by decide)
theorem MW.a34 (h : MW G0 G y hl r sc A F wa sa) (f : Nat → Int32) : MW G0 (xup G (y + 34) (eI 0 402 f)) y hl r sc (setA A 34 f) F wa sa := h.arr 34 (by omega) f
theorem MW.c35 (h : MW G0 G y hl r sc A F wa sa) : G (y + 35) = some (eJ 12 wa) := h.2.1 35 (by decide) (by decide)
theorem MW.c36 (h : MW G0 G y hl r sc A F wa sa) : G (y + 36) = some (eJ 300 sa) := h.2.1 36 (by decide) (by decide)
theorem MW.c37 (h : MW G0 G y hl r sc A F wa sa) : G (y + 37) = some (eI 0 700 (A 37)) := h.2.1 37 (by decide) (by decide)
theorem MW.a37 (h : MW G0 G y hl r sc A F wa sa) (f : Nat → Int32) : MW G0 (xup G (y + 37) (eI 0 700 f)) y hl r sc (setA A 37 f) F wa sa := h.arr 37 (by omega) f
theorem MW.c38 (h : MW G0 G y hl r sc A F wa sa) : G (y + 38) = some (eI 0 1 (A 38)) := h.2.1 38 (by decide) (by decide)
theorem MW.a38 (h : MW G0 G y hl r sc A F wa sa) (f : Nat → Int32) : MW G0 (xup G (y + 38) (eI 0 1 f)) y hl r sc (setA A 38 f) F wa sa := h.arr 38 (by omega) f
theorem MW.c39 (h : MW G0 G y hl r sc A F wa sa) : G (y + 39) = some (eI 0 4 (A 39)) := h.2.1 39 (by decide) (by decide)
theorem MW.a39 (h : MW G0 G y hl r sc A F wa sa) (f : Nat → Int32) : MW G0 (xup G (y + 39) (eI 0 4 f)) y hl r sc (setA A 39 f) F wa sa := h.arr 39 (by omega) f
theorem MW.c40 (h : MW G0 G y hl r sc A F wa sa) : G (y + 40) = some (eI 0 4 (A 40)) := h.2.1 40 (by decide) (by decide)
theorem MW.a40 (h : MW G0 G y hl r sc A F wa sa) (f : Nat → Int32) : MW G0 (xup G (y + 40) (eI 0 4 f)) y hl r sc (setA A 40 f) F wa sa := h.arr 40 (by omega) f
theorem MW.c41 (h : MW G0 G y hl r sc A F wa sa) : G (y + 41) = some (eI 0 4 (A 41)) := h.2.1 41 (by decide) (by decide)
theorem MW.a41 (h : MW G0 G y hl r sc A F wa sa) (f : Nat → Int32) : MW G0 (xup G (y + 41) (eI 0 4 f)) y hl r sc (setA A 41 f) F wa sa := h.arr 41 (by omega) f
theorem MW.c42 (h : MW G0 G y hl r sc A F wa sa) : G (y + 42) = some (eI 0 7 (A 42)) := h.2.1 42 (by decide) (by decide)
theorem MW.a42 (h : MW G0 G y hl r sc A F wa sa) (f : Nat → Int32) : MW G0 (xup G (y + 42) (eI 0 7 f)) y hl r sc (setA A 42 f) F wa sa := h.arr 42 (by omega) f
theorem MW.c43 (h : MW G0 G y hl r sc A F wa sa) : G (y + 43) = some (eI 0 35 (A 43)) := h.2.1 43 (by decide) (by decide)
theorem MW.a43 (h : MW G0 G y hl r sc A F wa sa) (f : Nat → Int32) : MW G0 (xup G (y + 43) (eI 0 35 f)) y hl r sc (setA A 43 f) F wa sa := h.arr 43 (by omega) f
theorem MW.c44 (h : MW G0 G y hl r sc A F wa sa) : G (y + 44) = some (eI 0 4500 (A 44)) := h.2.1 44 (by decide) (by decide)
theorem MW.a44 (h : MW G0 G y hl r sc A F wa sa) (f : Nat → Int32) : MW G0 (xup G (y + 44) (eI 0 4500 f)) y hl r sc (setA A 44 f) F wa sa := h.arr 44 (by omega) f
theorem MW.c45 (h : MW G0 G y hl r sc A F wa sa) : G (y + 45) = some (eI 2 4 (A 45)) := h.2.1 45 (by decide) (by decide)
theorem MW.a45 (h : MW G0 G y hl r sc A F wa sa) (f : Nat → Int32) : MW G0 (xup G (y + 45) (eI 2 4 f)) y hl r sc (setA A 45 f) F wa sa := h.arr 45 (by omega) f
end MWL
abbrev mdQ (G0 : xHp) (h y : Nat) (v : Option Value) (hl : xHl) (r : xRw) (sc : Nat × Nat × Int32) (A : Nat → Nat → Int32) (F : Nat → Int32) (wa sa : Nat → Int64) : xPost := xEx (fun G' => MW G0 G' y hl r sc A F wa sa) (fun _ => v) (fun _ => h) (fun G' => G')
