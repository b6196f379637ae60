/-! ===== the reference: its hall is another ===== -/
def setH (hl : xHl) (i : Nat) (g : Nat → Nat) : xHl := fun a => if a = i then g else hl a
theorem setH_at {hl : xHl} {i : Nat} {g : Nat → Nat} : setH hl i g i = g := if_pos rfl
theorem setH_ne {hl : xHl} {i a : Nat} {g : Nat → Nat} (h : a ≠ i) : setH hl i g a = hl a := if_neg h
theorem setH_lt {hl : xHl} {i : Nat} {g : Nat → Nat} (h : ∀ i j, hl i j < 1000000) (hg : ∀ j, g j < 1000000) : ∀ a b, setH hl i g a b < 1000000 := by
  intro a b
  unfold setH
  by_cases e : a = i
  · rw [if_pos e]; exact hg b
  · rw [if_neg e]; exact h a b
theorem set2_H (hl : xHl) (i j v : Nat) : setH hl i (fun b => if b = j then v else hl i b) = set2 hl i j v := by
  funext a b
  unfold setH set2
  by_cases e : a = i
  · subst e
    rw [if_pos rfl]
    by_cases e2 : b = j
    · rw [if_pos e2, if_pos ⟨rfl, e2⟩]
    · rw [if_neg e2, if_neg (fun z => e2 z.2)]
  · rw [if_neg e, if_neg (fun z => e z.1)]
theorem ovr_hl {A : Nat → Nat → Int32} {hl hl' : xHl} {r : xRw} {sc : Nat × Nat × Int32} (k : Nat) (h0 : k = 1 → hl' 0 = hl 0) (h1 : k = 2 → hl' 1 = hl 1) (h2 : k = 18 → hl' 2 = hl 2) (h3 : k = 4 → hl' 3 = hl 3) (h4 : k = 9 → hl' 4 = hl 4) (h5 : k = 10 → hl' 5 = hl 5) (h6 : k = 11 → hl' 6 = hl 6) (h7 : k = 12 → hl' 7 = hl 7) : ovr A hl' r sc k = ovr A hl r sc k := by
  unfold ovr
  exact ite_c (fun e => by unfold scal; rw [h0 e]) (ite_c (fun e => by rw [h1 e]) (ite_c (fun _ => rfl) (ite_c (fun e => by rw [h3 e]) (ite_c (fun _ => rfl) (ite_c (fun _ => rfl) (ite_c (fun _ => rfl) (ite_c (fun _ => rfl) (ite_c (fun e => by rw [h4 e]) (ite_c (fun e => by rw [h5 e]) (ite_c (fun e => by rw [h6 e]) (ite_c (fun e => by rw [h7 e]) (ite_c (fun _ => rfl) (ite_c (fun _ => rfl) (ite_c (fun e => by rw [h2 e]) rfl))))))))))))))
section MHL
variable {G0 G : xHp} {y : Nat} {hl : xHl} {r : xRw} {sc : Nat × Nat × Int32} {A : Nat → Nat → Int32} {F : Nat → Int32} {wa sa : Nat → Int64}
theorem MW.r2 (h : MW G0 G y hl r sc A F wa sa) (g : Nat → Nat) (hg : ∀ j, g j < 1000000) : MW G0 (xup G (y + 2) (eI 0 4 (nF g))) y (setH hl 1 g) r sc A F wa sa :=
  h.cell 2 (by omega) (by omega) rfl (fun k a b q => by unfold mcell; rw [ovr_hl (A := A) (hl := hl) (hl' := setH hl 1 g) (r := r) (sc := sc) k (fun _ => rfl) (fun e => absurd e q) (fun _ => rfl) (fun _ => rfl) (fun _ => rfl) (fun _ => rfl) (fun _ => rfl) (fun _ => rfl)]) (setH_lt h.2.2.2 hg)
theorem MW.e2 (h : MW G0 G y hl r sc A F wa sa) (j v : Nat) (hv : v < 1000000) : MW G0 (xup G (y + 2) (eI 0 4 (upd (nF (hl 1)) j (nI v)))) y (set2 hl 1 j v) r sc A F wa sa := by
  have h1 := h.r2 (fun b => if b = j then v else hl 1 b) (fun b => by have := h.2.2.2 1 b; split <;> omega)
  rw [set2_H] at h1
  rw [← set2_at]
  have e : set2 hl 1 j v 1 = fun b => if b = j then v else hl 1 b := by rw [← set2_H]; exact setH_at
  rw [e]; exact h1
theorem MW.r18 (h : MW G0 G y hl r sc A F wa sa) (g : Nat → Nat) (hg : ∀ j, g j < 1000000) : MW G0 (xup G (y + 18) (eI 0 4 (nF g))) y (setH hl 2 g) r sc A F wa sa :=
  h.cell 18 (by omega) (by omega) rfl (fun k a b q => by unfold mcell; rw [ovr_hl (A := A) (hl := hl) (hl' := setH hl 2 g) (r := r) (sc := sc) k (fun _ => rfl) (fun _ => rfl) (fun e => absurd e q) (fun _ => rfl) (fun _ => rfl) (fun _ => rfl) (fun _ => rfl) (fun _ => rfl)]) (setH_lt h.2.2.2 hg)
theorem MW.e18 (h : MW G0 G y hl r sc A F wa sa) (j v : Nat) (hv : v < 1000000) : MW G0 (xup G (y + 18) (eI 0 4 (upd (nF (hl 2)) j (nI v)))) y (set2 hl 2 j v) r sc A F wa sa := by
  have h1 := h.r18 (fun b => if b = j then v else hl 2 b) (fun b => by have := h.2.2.2 2 b; split <;> omega)
  rw [set2_H] at h1
  rw [← set2_at]
  have e : set2 hl 2 j v 2 = fun b => if b = j then v else hl 2 b := by rw [← set2_H]; exact setH_at
  rw [e]; exact h1
theorem MW.r9 (h : MW G0 G y hl r sc A F wa sa) (g : Nat → Nat) (hg : ∀ j, g j < 1000000) : MW G0 (xup G (y + 9) (eI 0 7 (nF g))) y (setH hl 4 g) r sc A F wa sa :=
  h.cell 9 (by omega) (by omega) rfl (fun k a b q => by unfold mcell; rw [ovr_hl (A := A) (hl := hl) (hl' := setH hl 4 g) (r := r) (sc := sc) k (fun _ => rfl) (fun _ => rfl) (fun _ => rfl) (fun _ => rfl) (fun e => absurd e q) (fun _ => rfl) (fun _ => rfl) (fun _ => rfl)]) (setH_lt h.2.2.2 hg)
theorem MW.e9 (h : MW G0 G y hl r sc A F wa sa) (j v : Nat) (hv : v < 1000000) : MW G0 (xup G (y + 9) (eI 0 7 (upd (nF (hl 4)) j (nI v)))) y (set2 hl 4 j v) r sc A F wa sa := by
  have h1 := h.r9 (fun b => if b = j then v else hl 4 b) (fun b => by have := h.2.2.2 4 b; split <;> omega)
  rw [set2_H] at h1
  rw [← set2_at]
  have e : set2 hl 4 j v 4 = fun b => if b = j then v else hl 4 b := by rw [← set2_H]; exact setH_at
  rw [e]; exact h1
theorem MW.r10 (h : MW G0 G y hl r sc A F wa sa) (g : Nat → Nat) (hg : ∀ j, g j < 1000000) : MW G0 (xup G (y + 10) (eI 0 7 (nF g))) y (setH hl 5 g) r sc A F wa sa :=
  h.cell 10 (by omega) (by omega) rfl (fun k a b q => by unfold mcell; rw [ovr_hl (A := A) (hl := hl) (hl' := setH hl 5 g) (r := r) (sc := sc) k (fun _ => rfl) (fun _ => rfl) (fun _ => rfl) (fun _ => rfl) (fun _ => rfl) (fun e => absurd e q) (fun _ => rfl) (fun _ => rfl)]) (setH_lt h.2.2.2 hg)
theorem MW.e10 (h : MW G0 G y hl r sc A F wa sa) (j v : Nat) (hv : v < 1000000) : MW G0 (xup G (y + 10) (eI 0 7 (upd (nF (hl 5)) j (nI v)))) y (set2 hl 5 j v) r sc A F wa sa := by
  have h1 := h.r10 (fun b => if b = j then v else hl 5 b) (fun b => by have := h.2.2.2 5 b; split <;> omega)
  rw [set2_H] at h1
  rw [← set2_at]
  have e : set2 hl 5 j v 5 = fun b => if b = j then v else hl 5 b := by rw [← set2_H]; exact setH_at
  rw [e]; exact h1
theorem MW.r11 (h : MW G0 G y hl r sc A F wa sa) (g : Nat → Nat) (hg : ∀ j, g j < 1000000) : MW G0 (xup G (y + 11) (eI 0 7 (nF g))) y (setH hl 6 g) r sc A F wa sa :=
  h.cell 11 (by omega) (by omega) rfl (fun k a b q => by unfold mcell; rw [ovr_hl (A := A) (hl := hl) (hl' := setH hl 6 g) (r := r) (sc := sc) k (fun _ => rfl) (fun _ => rfl) (fun _ => rfl) (fun _ => rfl) (fun _ => rfl) (fun _ => rfl) (fun e => absurd e q) (fun _ => rfl)]) (setH_lt h.2.2.2 hg)
theorem MW.e11 (h : MW G0 G y hl r sc A F wa sa) (j v : Nat) (hv : v < 1000000) : MW G0 (xup G (y + 11) (eI 0 7 (upd (nF (hl 6)) j (nI v)))) y (set2 hl 6 j v) r sc A F wa sa := by
  have h1 := h.r11 (fun b => if b = j then v else hl 6 b) (fun b => by have := h.2.2.2 6 b; split <;> omega)
  rw [set2_H] at h1
  rw [← set2_at]
  have e : set2 hl 6 j v 6 = fun b => if b = j then v else hl 6 b := by rw [← set2_H]; exact setH_at
  rw [e]; exact h1
theorem MW.r12 (h : MW G0 G y hl r sc A F wa sa) (g : Nat → Nat) (hg : ∀ j, g j < 1000000) : MW G0 (xup G (y + 12) (eI 0 7 (nF g))) y (setH hl 7 g) r sc A F wa sa :=
  h.cell 12 (by omega) (by omega) rfl (fun k a b q => by unfold mcell; rw [ovr_hl (A := A) (hl := hl) (hl' := setH hl 7 g) (r := r) (sc := sc) k (fun _ => rfl) (fun _ => rfl) (fun _ => rfl) (fun _ => rfl) (fun _ => rfl) (fun _ => rfl) (fun _ => rfl) (fun e => absurd e q)]) (setH_lt h.2.2.2 hg)
theorem MW.e12 (h : MW G0 G y hl r sc A F wa sa) (j v : Nat) (hv : v < 1000000) : MW G0 (xup G (y + 12) (eI 0 7 (upd (nF (hl 7)) j (nI v)))) y (set2 hl 7 j v) r sc A F wa sa := by
  have h1 := h.r12 (fun b => if b = j then v else hl 7 b) (fun b => by have := h.2.2.2 7 b; split <;> omega)
  rw [set2_H] at h1
  rw [← set2_at]
  have e : set2 hl 7 j v 7 = fun b => if b = j then v else hl 7 b := by rw [← set2_H]; exact setH_at
  rw [e]; exact h1
theorem MW.r4 (h : MW G0 G y hl r sc A F wa sa) (g : Nat → Nat) (hg : ∀ j, g j < 1000000) : MW G0 (xup G (y + 4) (eI 0 16 (fun j => skJ (g j)))) y (setH hl 3 g) r sc A F wa sa :=
  h.cell 4 (by omega) (by omega) rfl (fun k a b q => by unfold mcell; rw [ovr_hl (A := A) (hl := hl) (hl' := setH hl 3 g) (r := r) (sc := sc) k (fun _ => rfl) (fun _ => rfl) (fun _ => rfl) (fun e => absurd e q) (fun _ => rfl) (fun _ => rfl) (fun _ => rfl) (fun _ => rfl)]) (setH_lt h.2.2.2 hg)
theorem MW.e4 (h : MW G0 G y hl r sc A F wa sa) (j v : Nat) (hv : v < 1000000) : MW G0 (xup G (y + 4) (eI 0 16 (upd (fun i => skJ (hl 3 i)) j (skJ v)))) y (set2 hl 3 j v) r sc A F wa sa := by
  have h1 := h.r4 (fun b => if b = j then v else hl 3 b) (fun b => by have := h.2.2.2 3 b; split <;> omega)
  rw [set2_H] at h1
  have e : upd (fun i => skJ (hl 3 i)) j (skJ v) = fun i => skJ (if i = j then v else hl 3 i) := by
    funext i
    unfold upd
    by_cases e : i = j
    · rw [if_pos e, if_pos e]
    · rw [if_neg e, if_neg e]
  rw [e]; exact h1
theorem MW.r1 (h : MW G0 G y hl r sc A F wa sa) (g : Nat → Nat) (hg : ∀ j, g j < 1000000) : MW G0 (xup G (y + 1) (eI 0 9 (scal (setH hl 0 g) r sc))) y (setH hl 0 g) r sc A F wa sa :=
  h.cell 1 (by omega) (by omega) rfl (fun k a b q => by unfold mcell; rw [ovr_hl (A := A) (hl := hl) (hl' := setH hl 0 g) (r := r) (sc := sc) k (fun e => absurd e q) (fun _ => rfl) (fun _ => rfl) (fun _ => rfl) (fun _ => rfl) (fun _ => rfl) (fun _ => rfl) (fun _ => rfl)]) (setH_lt h.2.2.2 hg)
theorem MW.e1 (h : MW G0 G y hl r sc A F wa sa) (j v : Nat) (hj : j < 5) (hv : v < 1000000) : MW G0 (xup G (y + 1) (eI 0 9 (upd (scal hl r sc) j (nI v)))) y (set2 hl 0 j v) r sc A F wa sa := by
  have h1 := h.r1 (fun b => if b = j then v else hl 0 b) (fun b => by have := h.2.2.2 0 b; split <;> omega)
  rw [set2_H] at h1
  have e : upd (scal hl r sc) j (nI v) = scal (set2 hl 0 j v) r sc := by
    funext i
    unfold upd scal
    by_cases e : i = j
    · subst e; rw [if_pos rfl, if_pos hj]; simp [set2]
    · rw [if_neg e]
      by_cases h5 : i < 5
      · rw [if_pos h5, if_pos h5]; simp [set2, e]
      · rw [if_neg h5, if_neg h5]
  rw [e]; exact h1
end MHL
def clF (f : Nat → Int32) (v : Int32) (k : Nat) : Nat → Int32 := fun j => if j < k then v else f j
theorem clF_0 (f : Nat → Int32) (v : Int32) : clF f v 0 = f := by funext j; unfold clF; rw [if_neg (by omega)]
theorem clF_s (f : Nat → Int32) (v : Int32) (k : Nat) : upd (clF f v k) k v = clF f v (k + 1) := by
  funext j
  unfold upd clF
  by_cases e : j = k
  · rw [if_pos e, if_pos (by omega)]
  · rw [if_neg e]
    by_cases h : j < k
    · rw [if_pos h, if_pos (by omega)]
    · rw [if_neg h, if_neg (by omega)]
def cpN (f : Nat → Int32) (g : Nat → Nat) (n : Nat) : Nat → Nat := fun j => if j < n then thN (f j) else g j
theorem cp_nF {f : Nat → Int32} {g : Nat → Nat} {n : Nat} (h : ∀ j, ∃ v, v < 1000000 ∧ f j = nI v) : cpF f (nF g) n = nF (cpN f g n) := by
  funext j
  unfold cpF nF cpN
  by_cases e : j < n
  · rw [if_pos e, if_pos e]
    obtain ⟨v, h1, h2⟩ := h j
    rw [h2, thN_nI (by omega)]
  · rw [if_neg e, if_neg e]
theorem cpN_lt {f : Nat → Int32} {g : Nat → Nat} {n : Nat} (h : ∀ j, ∃ v, v < 1000000 ∧ f j = nI v) (hg : ∀ j, g j < 1000000) : ∀ j, cpN f g n j < 1000000 := by
  intro j
  unfold cpN
  by_cases e : j < n
  · rw [if_pos e]
    obtain ⟨v, h1, h2⟩ := h j
    rw [h2, thN_nI (by omega)]; exact h1
  · rw [if_neg e]; exact hg j
theorem cpN_at {f : Nat → Int32} {g : Nat → Nat} {n j v : Nat} (hj : j < n) (h : f j = nI v) (hv : v < 2 ^ 31) : cpN f g n j = v := by
  unfold cpN
  rw [if_pos hj, h, thN_nI hv]
def cpS (hk hl : xHl) : Nat → Nat := fun j => if j < 16 then hk 3 j else hl 3 j
theorem cp_sk {f : Nat → Int32} {hk hl : xHl} (h : ∀ j, j < 16 → f j = skJ (hk 3 j)) : cpF f (fun j => skJ (hl 3 j)) 16 = fun j => skJ (cpS hk hl j) := by
  funext j
  unfold cpF cpS
  by_cases e : j < 16
  · rw [if_pos e, if_pos e, h j e]
  · rw [if_neg e, if_neg e]
/-- two halls alike where it is told -/
def VisH (hk hl : xHl) : Prop := (∀ j, j < 5 → hl 0 j = hk 0 j) ∧ (∀ s, s < hk 0 2 → hl 1 s = hk 1 s ∧ hl 2 s = hk 2 s) ∧ (1 ≤ hk 0 0 → ∀ j, j < 16 → hl 3 j = hk 3 j) ∧ ∀ t, t < hk 0 4 → hl 4 t = hk 4 t ∧ hl 5 t = hk 5 t ∧ hl 6 t = hk 6 t ∧ hl 7 t = hk 7 t
def hlN (A : Nat → Nat → Int32) (hk h1 : xHl) : xHl := setH (setH (setH (setH (setH (setH (setH h1 1 (cpN (A 20) (h1 1) 4)) 2 (cpN (A 21) (h1 2) 4)) 3 (cpS hk h1)) 4 (cpN (A 23) (h1 4) 7)) 5 (cpN (A 24) (h1 5) 7)) 6 (cpN (A 25) (h1 6) 7)) 7 (cpN (A 26) (h1 7) 7)
theorem vis_new {A : Nat → Nat → Int32} {hk h1 : xHl} (hN : NH A hk 0) (hC : CntOk hk) (hb : ∀ i j, hk i j < 1000000) (h0 : ∀ j, j < 5 → h1 0 j = hk 0 j) : VisH hk (hlN A hk h1) := by
  obtain ⟨n1, n2, n3, n4⟩ := hN
  obtain ⟨c1, c2, c3⟩ := hC
  refine ⟨h0, fun s hs => ?_, fun _ j hj => ?_, fun t ht => ?_⟩
  · obtain ⟨a1, a2⟩ := n2 s hs
    exact ⟨cpN_at (by omega) a1 (by have := hb 1 s; omega), cpN_at (by omega) a2 (by have := hb 2 s; omega)⟩
  · exact if_pos hj
  · obtain ⟨a1, a2, a3, a4⟩ := n4 t ht
    exact ⟨cpN_at (by omega) a1 (by have := hb 4 t; omega), cpN_at (by omega) a2 (by have := hb 5 t; omega), cpN_at (by omega) a3 (by have := hb 6 t; omega), cpN_at (by omega) a4 (by have := hb 7 t; omega)⟩
theorem sc5 {hk hl : xHl} : (∀ j, j < 5 → set2 (set2 (set2 (set2 (set2 hl 0 0 (hk 0 0)) 0 1 (hk 0 1)) 0 2 (hk 0 2)) 0 3 (hk 0 3)) 0 4 (hk 0 4) 0 j = hk 0 j) ∧ ∀ i, i ≠ 0 → set2 (set2 (set2 (set2 (set2 hl 0 0 (hk 0 0)) 0 1 (hk 0 1)) 0 2 (hk 0 2)) 0 3 (hk 0 3)) 0 4 (hk 0 4) i = hl i := by
  refine ⟨fun j hj => ?_, fun i hi => ?_⟩
  · have : j = 0 ∨ j = 1 ∨ j = 2 ∨ j = 3 ∨ j = 4 := by omega
    rcases this with e | e | e | e | e <;> subst e <;> simp [set2]
  · rw [set2_off _ _ _ hi, set2_off _ _ _ hi, set2_off _ _ _ hi, set2_off _ _ _ hi, set2_off _ _ _ hi]
theorem NH.clr {A : Nat → Nat → Int32} {hk : xHl} (h0 : ∀ i, i < 5 → A 19 i = 0) (h3 : ∀ j, j < 16 → A 22 j = -1) : NH A (hlClr hk) 2 := by
  have e2 : hlClr hk 0 2 = 0 := by simp [hlClr]
  have e3 : hlClr hk 0 3 = 0 := by simp [hlClr]
  have e4 : hlClr hk 0 4 = 0 := by simp [hlClr]
  refine ⟨fun i hd hi => ?_, fun s hs => by rw [e2] at hs; omega, fun j hj => ?_, fun t ht => by rw [e4] at ht; omega⟩
  · rw [h0 i hi]
    have : i = 2 ∨ i = 3 ∨ i = 4 := by omega
    rcases this with e | e | e <;> subst e
    · rw [e2]; rfl
    · rw [e3]; rfl
    · rw [e4]; rfl
  · rw [h3 j hj]
    have : hlClr hk 3 j = 0 := by simp [hlClr]
    rw [this]; rfl
theorem cl_40 {tp : Nat → Nat} {n q : Nat} {hk : xHl} : (clP tp n 0 q hk 40).1 ≠ 0 := by
  rcases hw : wiO tp n 0 q (wl 0) with _ | w
  · rw [cl_none hw]; exact flP_ne
  · rw [cl_full hw (decide_eq_true (Or.inl (by decide)))]; exact flP_ne
def eeH (tp : Nat → Nat) (n : Nat) (s : Nat × Nat × xHl) : Nat × Nat × xHl := (eeP tp n s.1 s.2.1, s.2)
theorem hrL_f {tp : Nat → Nat} {n bf : Nat} {s : Nat × Nat × xHl} (h : isS tp n s.1 s.2.1 59 = false) : ∀ k, hrL tp n k bf s = s
  | 0 => rfl
  | k + 1 => if_neg (by rw [h]; decide)
theorem hrL_t {tp : Nat → Nat} {n k bf : Nat} {s : Nat × Nat × xHl} (h : isS tp n s.1 s.2.1 59 = true) : hrL tp n (k + 1) bf s = hrL tp n k (bf + 1) (clP tp n s.1 (atA tp n (skP tp n s.2.1)) s.2.2 bf) := if_pos h
theorem hall_ee (tp : Nat → Nat) (n : Nat) (hl : xHl) : eeH tp n (hrL tp n 40 1 (clP tp n 0 0 (hlClr hl) 0)) = ((hallP tp n hl).1, (hrP tp n hl).2.1, (hallP tp n hl).2) := rfl
theorem hlClr_c (hl : xHl) : CntOk (hlClr hl) := by
  have e2 : hlClr hl 0 2 = 0 := by simp [hlClr]
  have e3 : hlClr hl 0 3 = 0 := by simp [hlClr]
  have e4 : hlClr hl 0 4 = 0 := by simp [hlClr]
  unfold CntOk; omega
