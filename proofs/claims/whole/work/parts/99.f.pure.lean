/-! ===== the core behind acts ===== -/
def CoreI (c : xCo) : Prop := CoreOk c ∧ RowI c.1.1 c.1.2 ∧ (∀ i, i < c.2.2.2.2 → RowI c.1.1 (c.2.2.2.1 i)) ∧ ∀ j, c.1.1 0 3 * 4 ≤ j → c.1.1 3 j = 0
section CIL
variable {c : xCo} {rs : List (List Nat)} {v w u : Int32}
theorem CoreI.hO (h : CoreI c) : HallOk c.1.1 := h.1.1
theorem CoreI.told2 (h : CoreI c) (h2 : 0 < c.1.1 0 2) : c.2.2.1.1 = true := by
  rcases e : c.2.2.1.1 with _ | _
  · have := h.1.2.2.2.2.2.2.1 e; omega
  · rfl
theorem CoreI.told3 (h : CoreI c) (h2 : 0 < c.1.1 0 3) : c.2.2.1.1 = true := by
  rcases e : c.2.2.1.1 with _ | _
  · have := h.1.2.2.2.2.2.2.1 e; omega
  · rfl
theorem CoreI.told4 (h : CoreI c) (h2 : 0 < c.1.1 0 4) : c.2.2.1.1 = true := by
  rcases e : c.2.2.1.1 with _ | _
  · have := h.1.2.2.2.2.2.2.1 e; omega
  · rfl
theorem CoreI.act {r' : xRw} (h : CoreI c) (ht : c.2.2.1.1 = true) (hr : RowI c.1.1 r') : CoreI (rowC (pushC c) r') := by
  obtain ⟨⟨k1, k2, k3, k4, k5, k6, k7, k8, k9, k10⟩, i1, i2, i3⟩ := h
  have hp : ∀ i, i < min (c.2.2.2.2 + 1) 20 → RowI c.1.1 (pushL c.1.2 c.2.2.2.1 i) := fun i hi => by
    cases i with
    | zero => exact i1
    | succ i => exact i2 i (by omega)
  refine ⟨⟨k1, hr.1, k3, k4, k5, k6, fun z => ?_, k8, ?_, fun i hi => (hp i hi).1⟩, hr, hp, i3⟩
  · have z2 : c.2.2.1.1 = false := z
    rw [ht] at z2
    exact absurd z2 (by decide)
  · show min (c.2.2.2.2 + 1) 20 ≤ 20
    omega
theorem inR_tn {n : Nat} (h : inR v n = true) : thN v < n ∧ v = nI (thN v) := by
  obtain ⟨h1, h2⟩ := of_decide_eq_true h
  have e : thN v = v.toInt.toNat := rfl
  refine ⟨by omega, ?_⟩
  apply Int32.toInt_inj.mp
  rw [nI_toInt (by have := v.toInt_lt; omega)]
  omega
theorem minute_I (h : CoreI c) : CoreI (minuteS rs c).2 := by
  unfold minuteS
  by_cases e : c.2.2.1.1 = true ∧ c.1.2 0 < nI 999
  · rw [if_pos e]; exact h.act e.1 (h.2.1.go h.hO e.2)
  · rw [if_neg e]; exact h
theorem give_I (h : CoreI c) : CoreI (giveS c v w).2 := by
  unfold giveS
  by_cases e : inR v (c.1.1 0 3) = true ∧ inR w (c.1.1 0 4) = true ∧ c.1.2 (5 + thN v) = -1 ∧ canT c.1.1 c.1.2 (thN v) (thN w) = true
  · rw [if_pos e]
    obtain ⟨e1, e2, e3, e4⟩ := e
    have a1 := (inR_tn e1).1
    exact h.act (h.told3 (by omega)) (h.2.1.begin h.hO a1 e3 (inR_tn e2).1 e4)
  · rw [if_neg e]; exact h
theorem putDown_I (h : CoreI c) : CoreI (putDownS c v).2 := by
  unfold putDownS
  by_cases e : inR v (c.1.1 0 3) = true ∧ ¬ c.1.2 (5 + thN v) = -1
  · rw [if_pos e]
    have a1 := (inR_tn e.1).1
    exact h.act (h.told3 (by omega)) (h.2.1.lay h.hO a1 e.2)
  · rw [if_neg e]; exact h
theorem bring_I (h : CoreI c) : CoreI (bringS c v).2 := by
  unfold bringS
  by_cases e : inR v (c.1.1 0 2) = true ∧ c.1.2 (1 + thN v) < nI 99
  · rw [if_pos e]
    have a1 := (inR_tn e.1).1
    exact h.act (h.told2 (by omega)) (h.2.1.bring h.hO a1 e.2)
  · rw [if_neg e]; exact h
theorem cof_n (h1 : ¬ w < nI 1) (h2 : ¬ nI 60 < w) : ∃ k, 1 ≤ k ∧ k ≤ 60 ∧ w = nI k := by
  have a1 : (1 : Int) ≤ w.toInt := by
    have := Int32.le_iff_toInt_le.mp (Int32.not_lt.mp h1)
    exact this
  have a2 : w.toInt ≤ 60 := by
    have := Int32.le_iff_toInt_le.mp (Int32.not_lt.mp h2)
    exact this
  refine ⟨w.toInt.toNat, by omega, by omega, ?_⟩
  apply Int32.toInt_inj.mp
  rw [nI_toInt (by omega)]
  omega
theorem coffee_I (h : CoreI c) : CoreI (coffeeS c v w).2 := by
  unfold coffeeS
  by_cases e : inR v (c.1.1 0 3) = true ∧ ¬ w < nI 1 ∧ ¬ nI 60 < w ∧ c.1.2 (5 + thN v) = -1 ∧ ¬ 0 < c.1.2 (13 + thN v)
  · rw [if_pos e]
    have a1 := (inR_tn e.1).1
    obtain ⟨k, -, k2, k3⟩ := cof_n e.2.1 e.2.2.1
    rw [k3]
    exact h.act (h.told3 (by omega)) (h.2.1.coffee h.hO a1 k2)
  · rw [if_neg e]; exact h
theorem undo_I (h : CoreI c) : CoreI (undoS c).2 := by
  unfold undoS
  by_cases e : c.2.2.2.2 = 0
  · rw [if_pos e]; exact h
  · rw [if_neg e]
    obtain ⟨⟨k1, k2, k3, k4, k5, k6, k7, k8, k9, k10⟩, i1, i2, i3⟩ := h
    have hp : ∀ i, i < c.2.2.2.2 - 1 → RowI c.1.1 (popL c.2.2.2.1 i) := fun i hi => i2 (i + 1) (by omega)
    have h0 := i2 0 (by omega)
    refine ⟨⟨k1, h0.1, k3, k4, k5, k6, fun z => ?_, k8, ?_, fun i hi => (hp i hi).1⟩, h0, hp, i3⟩
    · have := k7 z; omega
    · show c.2.2.2.2 - 1 ≤ 20
      omega
theorem force_I {rc : Nat} (h : CoreI c) : CoreI (forceS rc c v).2 := by
  unfold forceS
  by_cases e : v = -1 ∨ inR v rc = true
  · rw [if_pos e]; exact h
  · rw [if_neg e]; exact h
theorem book_I (h : CoreI c) : CoreI (bookS c u v w).2 := by
  obtain ⟨⟨k1, k2, k3, k4, k5, k6, k7, k8, k9, k10⟩, i1, i2, i3⟩ := id h
  unfold bookS
  by_cases e0 : u = -1
  · rw [if_pos e0]
    refine ⟨⟨k1, k2, k3, k4, ⟨Nat.zero_le 10, fun k hk => absurd hk (Nat.not_lt_zero k)⟩, k6, fun z => ?_, k8, k9, k10⟩, i1, i2, i3⟩
    obtain ⟨z1, z2, z3, z4, -, z6⟩ := k7 z
    exact ⟨z1, z2, z3, z4, rfl, z6⟩
  · rw [if_neg e0]
    by_cases e : inR u 400 = true ∧ inR v (c.1.1 0 4) = true ∧ inR w 5 = true ∧ c.2.1.2 < 10
    · rw [if_pos e]
      obtain ⟨e1, e2, e3, e4⟩ := e
      have a1 := (inR_tn e1).1
      have a2 := (inR_tn e2).1
      have a3 := (inR_tn e3).1
      refine ⟨⟨k1, k2, k3, k4, ⟨?_, fun k hk => ?_⟩, k6, fun z => ?_, k8, k9, k10⟩, i1, i2, i3⟩
      · show c.2.1.2 + 1 ≤ 10
        omega
      · have hk2 : k < c.2.1.2 + 1 := hk
        by_cases e5 : k = c.2.1.2
        · have b0 : bkAdd c.2.1.1 c.2.1.2 (thN u) (thN v) (thN w) 0 k = thN u := by unfold bkAdd; rw [if_pos e5, if_pos rfl]
          have b1 : bkAdd c.2.1.1 c.2.1.2 (thN u) (thN v) (thN w) 1 k = thN v := by unfold bkAdd; rw [if_pos e5, if_neg (by decide), if_pos rfl]
          have b2 : bkAdd c.2.1.1 c.2.1.2 (thN u) (thN v) (thN w) 2 k = thN w := by unfold bkAdd; rw [if_pos e5, if_neg (by decide), if_neg (by decide)]
          show bkAdd c.2.1.1 c.2.1.2 (thN u) (thN v) (thN w) 0 k < 400 ∧ bkAdd c.2.1.1 c.2.1.2 (thN u) (thN v) (thN w) 1 k < c.1.1 0 4 ∧ bkAdd c.2.1.1 c.2.1.2 (thN u) (thN v) (thN w) 2 k ≤ 4
          rw [b0, b1, b2]
          omega
        · have bg : ∀ i, bkAdd c.2.1.1 c.2.1.2 (thN u) (thN v) (thN w) i k = c.2.1.1 i k := fun i => if_neg e5
          show bkAdd c.2.1.1 c.2.1.2 (thN u) (thN v) (thN w) 0 k < 400 ∧ bkAdd c.2.1.1 c.2.1.2 (thN u) (thN v) (thN w) 1 k < c.1.1 0 4 ∧ bkAdd c.2.1.1 c.2.1.2 (thN u) (thN v) (thN w) 2 k ≤ 4
          rw [bg, bg, bg]
          exact k5.2 k (by omega)
      · have := k7 z; omega
    · rw [if_neg e]; exact h
theorem seed_I {n : Nat} (h : CoreI c) (hn : n < 2 ^ 31) : CoreI (c.1, c.2.1, (c.2.2.1.1, c.2.2.1.2.1, n), c.2.2.2) := by
  obtain ⟨⟨k1, k2, k3, k4, k5, k6, k7, k8, k9, k10⟩, i1, i2, i3⟩ := h
  exact ⟨⟨k1, k2, k3, k4, k5, k6, k7, hn, k9, k10⟩, i1, i2, i3⟩
/-- what was read opens a new hall -/
theorem open_I {hk : xHl} (h : CoreI c) (hO : HallOk hk) (h0 : 1 ≤ hk 0 0) (h5 : ∀ t, t < hk 0 4 → hk 5 t ≤ 299 ∧ 1 ≤ hk 6 t) (h2 : ∀ s, s < hk 0 2 → hk 2 s ≤ 9) (h3 : ∀ j, hk 0 3 * 4 ≤ j → hk 3 j = 0) : CoreI (openC c hk) := by
  have hr := RowI.clear hO h2
  refine ⟨⟨hO, hr.1, h5, h2, ⟨Nat.zero_le 10, fun k z => absurd z (Nat.not_lt_zero k)⟩, ⟨fun _ => h0, fun _ => rfl⟩, fun z => ?_, h.1.2.2.2.2.2.2.2.1, Nat.zero_le 20, fun i hi => absurd hi (Nat.not_lt_zero i)⟩, hr, fun i hi => absurd hi (Nat.not_lt_zero i), h3⟩
  have z2 : true = false := z
  exact absurd z2 (by decide)
end CIL
