/-! ===== rows and halls of both sides, alike where they are seen ===== -/
/-- a row of the reference beside one of the class: alike but for the parts of sorts that there are not -/
def RE (hk : xHl) (rk r : xRw) : Prop := ∀ j, j < 35 → ¬ (1 + hk 0 2 ≤ j ∧ j < 5) → r j = rk j
section REL
variable {hk hl : xHl} {rk r rk' r' : xRw} {rv : Option (List Nat)} {q t s : Nat}
theorem RE.vw (hO : HallOk hk) (h : RE hk rk r) : RV hk rk r := fun j hj => by
  have o2 := hO.1
  have o3 := hO.2.1
  have o4 := hO.2.2.1
  unfold vsR at hj
  exact h j (by omega) (by omega)
theorem RE.of (hv : RV hk rk' r') (h1 : ∀ j, ¬ vsR hk j → rk' j = rk j) (h2 : ∀ j, ¬ vsR hk j → r' j = r j) (h : RE hk rk r) : RE hk rk' r' := fun j a b => by
  by_cases e : vsR hk j
  · exact hv j e
  · rw [h1 j e, h2 j e]; exact h j a b
theorem RE.up {i : Nat} {x x' : Int32} (h : RE hk rk r) (hx : x = x') : RE hk (upd rk i x') (upd r i x) := fun j a b => by
  by_cases e : j = i
  · subst e; rw [upd_at, upd_at, hx]
  · rw [upd_off e, upd_off e]; exact h j a b
theorem vg_of (hV : VisH hk hl) (h3 : hk 0 3 ≤ 4) (h : 1 ≤ hk 0 0 ∨ hk 0 3 = 0) : VG hk hl := ⟨hV.1, hV.2.1, fun j hj => by
  rcases h with z | z
  · exact hV.2.2.1 z j (by omega)
  · omega, hV.2.2.2⟩
theorem hok_cg (hO : HallOk hk) (hv : VG hk hl) : HallOk hl := by
  obtain ⟨o2, o3, o4, o5, o6, o7, o8, o9⟩ := hO
  obtain ⟨v0, v1, v3, v4⟩ := hv
  have e2 : hl 0 2 = hk 0 2 := v0 2 (by omega)
  have e3 : hl 0 3 = hk 0 3 := v0 3 (by omega)
  have e4 : hl 0 4 = hk 0 4 := v0 4 (by omega)
  refine ⟨by omega, by omega, by omega, fun t ht => ?_, fun j hj => ?_, fun j hj => ?_, ?_, ?_⟩
  · rw [e4] at ht
    obtain ⟨a1, a2, a3, a4⟩ := v4 t ht
    rw [a1, a2, a3, a4, e2]
    exact o5 t ht
  · rw [e3] at hj
    rw [v3 j hj]; exact o6 j hj
  · rw [e2] at hj
    rw [(v1 j hj).1]; exact o7 j hj
  · rw [v0 0 (by omega)]; exact o8
  · rw [v0 1 (by omega)]; exact o9
theorem rok_cg (hv : VG hk hl) (h : RV hk rk r) (hr : RowOk hk rk) : RowOk hl r := by
  obtain ⟨r1, r2, r3, r4⟩ := hr
  have e2 : hl 0 2 = hk 0 2 := hv.1 2 (by omega)
  have e3 : hl 0 3 = hk 0 3 := hv.1 3 (by omega)
  have e4 : hl 0 4 = hk 0 4 := hv.1 4 (by omega)
  refine ⟨fun t ht => ?_, fun q hq => ?_, fun q q' a1 a2 a3 a4 => ?_, fun s hs => ?_⟩
  · rw [e4] at ht
    rw [h.hw ht]; exact r1 t ht
  · rw [e3] at hq
    unfold mdW
    rw [h.m hq, e4, h.g hq]
    rcases r2 q hq with z | ⟨t, ht, z1, z2, z3⟩
    · exact Or.inl z
    · exact Or.inr ⟨t, ht, z1, by rw [h.hw ht]; exact z2, z3⟩
  · rw [e3] at a1 a2
    rw [h.m a1] at a4 ⊢
    rw [h.m a2] at a4
    exact r3 q q' a1 a2 a3 a4
  · rw [e2] at hs
    rw [h.p hs]; exact r4 s hs
theorem rowC_cg {m : Nat} (hv : VG hk hl) (h : RV hk rk r) (hr : RowC hk rk m) : RowC hl r m := by
  have e4 : hl 0 4 = hk 0 4 := hv.1 4 (by omega)
  refine ⟨h.z.trans hr.1, fun t ht h0 => ?_⟩
  rw [e4] at ht
  rw [h.hw ht] at h0
  rw [(hv.2.2.2 t ht).2.1]
  exact hr.2 t ht h0
theorem vs_cg (hv : VG hk hl) {j : Nat} : vsR hl j ↔ vsR hk j := by
  unfold vsR
  rw [hv.1 2 (by omega), hv.1 3 (by omega), hv.1 4 (by omega)]
theorem RE.go (hO : HallOk hk) (hv : VG hk hl) (hr : RowOk hk rk) (h : RE hk rk r) : RE hk (goMin hk rv rk).1 (goMin hl rv r).1 :=
  RE.of (goMin_cg hO hv (h.vw hO)).1 (fun _ z => go_hid hO hr z) (fun _ z => go_hid (hok_cg hO hv) (rok_cg hv (h.vw hO) hr) (fun y => z ((vs_cg hv).mp y))) h
theorem RE.begin (hO : HallOk hk) (hv : VG hk hl) (h : RE hk rk r) (hq : q < hk 0 3) (ht : t < hk 0 4) : RE hk (beginR hk rk q t) (beginR hl r q t) := by
  have o5 := hO.2.2.2.1 t ht
  have h' := h.vw hO
  unfold beginR
  rw [effS_cg hO hv hq ht, (hv.2.2.2 t ht).1, (hv.2.2.2 t ht).2.2.2]
  exact (((h.up (by rw [h'.p o5.1])).up rfl).up rfl).up rfl
theorem RE.lay (h : RE hk rk r) : RE hk (layR rk q t) (layR r q t) := by
  unfold layR
  exact ((h.up rfl).up rfl).up rfl
theorem RE.clear (hv : ∀ s, s < hk 0 2 → hl 2 s = hk 2 s) : RE hk (clearR hk) (clearR hl) := fun j a b => by
  unfold clearR rngF va_cpy nF
  by_cases e : 28 ≤ j ∧ j < 28 + 7
  · rw [if_pos e, if_pos e]
  · rw [if_neg e, if_neg e]
    by_cases e2 : 5 ≤ j ∧ j < 5 + 4
    · rw [if_pos e2, if_pos e2]
    · rw [if_neg e2, if_neg e2]
      by_cases e3 : 1 ≤ j ∧ j < 1 + 4
      · rw [if_pos e3, if_pos e3, hv (0 + (j - 1)) (by omega)]
      · rw [if_neg e3, if_neg e3]
end REL
/-! ===== single answers hang on visible places ===== -/
section ANL
variable {hk hl : xHl} {rk r : xRw} {v w : Int32}
theorem inR_lt {n : Nat} (h : inR v n = true) : thN v < n := (inR_tn h).1
theorem thing_cg (hv : VG hk hl) (h : RV hk rk r) : thingS hl r v w = thingS hk rk v w := by
  unfold thingS
  rw [hv.1 4 (by omega)]
  by_cases e : inR v (hk 0 4) = true
  · rw [if_pos e, if_pos e]
    have ht := inR_lt e
    obtain ⟨a1, a2, a3, a4⟩ := hv.2.2.2 _ ht
    rw [a1, a2, a3, a4, h.hw ht, h.w ht]
  · rw [if_neg e, if_neg e]
theorem mender_cg (hO : HallOk hk) (hV : VisH hk hl) (hv : VG hk hl) (h1 : inR v (hk 0 3) = true → 1 ≤ hk 0 0) (h : RV hk rk r) : menderS hl r v w = menderS hk rk v w := by
  unfold menderS
  rw [hv.1 3 (by omega)]
  have o3 := hO.2.1
  by_cases e : inR v (hk 0 3) = true
  · rw [if_pos e, if_pos e]
    have ht := inR_lt e
    have h3 := hV.2.2.1 (h1 e)
    rw [h.m ht, h.g ht, h.c ht, h.i ht, h3 (thN v * 4 + 0) (by omega), h3 (thN v * 4 + 1) (by omega), h3 (thN v * 4 + 2) (by omega), h3 (thN v * 4 + 3) (by omega)]
  · rw [if_neg e, if_neg e]
theorem sort_cg (hv : VG hk hl) (h : RV hk rk r) : sortS hl r v w = sortS hk rk v w := by
  unfold sortS
  rw [hv.1 2 (by omega)]
  by_cases e : inR v (hk 0 2) = true ∧ inR w 2 = true
  · rw [if_pos e, if_pos e]
    have ht := inR_lt e.1
    rw [(hv.2.1 _ ht).1, h.p ht]
  · rw [if_neg e, if_neg e]
theorem bitsF_cg {x : Int32} (h : RV hk rk r) : ∀ n, n ≤ hk 0 4 → bitsF hl r x n = bitsF hk rk x n
  | 0, _ => rfl
  | n + 1, hn => by
    unfold bitsF
    rw [bitsF_cg h n (by omega), h.hw (by omega)]
theorem bits_cg {x : Int32} (hv : VG hk hl) (h : RV hk rk r) : bitsOf hl r x = bitsOf hk rk x := by
  unfold bitsOf
  rw [hv.1 4 (by omega)]
  exact bitsF_cg h _ (Nat.le_refl _)
theorem count_cg {rc bn ac xx tn : Nat} {fo : Int32} (hv : VG hk hl) (h : RV hk rk r) : countS hl r rc fo bn ac xx tn w = countS hk rk rc fo bn ac xx tn w := by
  unfold countS
  rw [hv.1 0 (by omega), hv.1 1 (by omega), hv.1 2 (by omega), hv.1 3 (by omega), hv.1 4 (by omega), h.z, bits_cg hv h, bits_cg hv h, bits_cg hv h, bits_cg hv h, saved_cg hv h]
end ANL
