/-! ===== draws; how late one can come ===== -/
def drwN (a : Nat) : Nat := (a * 1103515245 + 12345) % 2147483648
theorem drwN_lt (a : Nat) : drwN a < 2 ^ 31 := Nat.mod_lt _ (by decide)
theorem kl_f : (1103515245 : Int64) = lN 1103515245 := by decide +kernel
theorem kl_m : (12345 : Int64) = lN 12345 := by decide +kernel
theorem kl_r : (2147483648 : Int64) = lN 2147483648 := by decide +kernel
theorem drw_nI {a : Nat} (h : a < 2 ^ 31) : (((nI a).toInt64 * (1103515245 : Int64) + (12345 : Int64)) - ((nI a).toInt64 * (1103515245 : Int64) + (12345 : Int64)) / (2147483648 : Int64) * (2147483648 : Int64)).toInt32 = nI (drwN a) := by
  rw [nI_l h, kl_f, kl_m, kl_r, lN_mul, lN_add, pk_lRem (by omega) (by decide) (by decide), lN_i]
  rfl
def satF (a g : Nat) (hl : xHl) : Nat → Nat × xHl
  | 0 => (a, hl)
  | t + 1 => (drwN (satF a g hl t).1, set2 (satF a g hl t).2 5 t ((satF a g hl t).2 5 t + drwN (satF a g hl t).1 / 65536 % g))
theorem satF_k (a g : Nat) (hl : xHl) {k : Nat} (h : k ≠ 5) (j : Nat) : ∀ t, (satF a g hl t).2 k j = hl k j
  | 0 => rfl
  | t + 1 => by
    simp only [satF, set2]
    rw [if_neg (fun q => h q.1)]
    exact satF_k a g hl h j t
theorem satF_hi (a g : Nat) (hl : xHl) : ∀ t j, t ≤ j → (satF a g hl t).2 5 j = hl 5 j
  | 0, j, _ => rfl
  | t + 1, j, h => by
    simp only [satF, set2]
    rw [if_neg (by omega)]
    exact satF_hi a g hl t j (by omega)
theorem satF_lo (a g : Nat) (hl : xHl) (hg : 0 < g) : ∀ t j, (satF a g hl t).2 5 j < hl 5 j + g
  | 0, j => by show hl 5 j < _; omega
  | t + 1, j => by
    show set2 (satF a g hl t).2 5 t ((satF a g hl t).2 5 t + drwN (satF a g hl t).1 / 65536 % g) 5 j < _
    unfold set2
    by_cases e : j = t
    · subst e
      rw [if_pos ⟨rfl, rfl⟩, satF_hi a g hl j j (Nat.le_refl j)]
      have := Nat.mod_lt (drwN (satF a g hl j).1 / 65536) hg
      omega
    · rw [if_neg (fun q => e q.2)]
      exact satF_lo a g hl hg t j
theorem satF_x {a g : Nat} {hl : xHl} (h : a < 2 ^ 31) : ∀ t, (satF a g hl t).1 < 2 ^ 31
  | 0 => h
  | t + 1 => drwN_lt _
theorem sat_hall {a g : Nat} {hl : xHl} (hO : HallOk hl) (hc : ∀ t, t < hl 0 4 → hl 5 t ≤ 300) (hg : 0 < g) (hg2 : g ≤ 61) (t : Nat) : HallOk (satF a g hl t).2 := by
  obtain ⟨o2, o3, o4, o5, o6, o7, o8, o9⟩ := hO
  have e := fun k (h : k ≠ 5) j => satF_k a g hl h j t
  refine ⟨by rw [e 0 (by decide)]; exact o2, by rw [e 0 (by decide)]; exact o3, by rw [e 0 (by decide)]; exact o4, fun i hi => ?_, fun j hj => by rw [e 3 (by decide)]; rw [e 0 (by decide)] at hj; exact o6 j hj, fun j hj => by rw [e 1 (by decide)]; rw [e 0 (by decide)] at hj; exact o7 j hj, by rw [e 0 (by decide)]; exact o8, by rw [e 0 (by decide)]; exact o9⟩
  rw [e 0 (by decide)] at hi
  rw [e 4 (by decide), e 7 (by decide), e 6 (by decide), e 0 (by decide)]
  obtain ⟨p1, p2, p3, p4⟩ := o5 i hi
  have := satF_lo a g hl hg t i
  have := hc i hi
  exact ⟨p1, p2, by omega, p4⟩
theorem row_hall {hl hk : xHl} {r : xRw} (h : RowOk hl r) (e : ∀ j, hk 0 j = hl 0 j) : RowOk hk r := by
  obtain ⟨h1, h2, h3, h4⟩ := h
  refine ⟨fun t ht => h1 t (by rw [← e]; exact ht), fun q hq => ?_, fun q q' a b => h3 q q' (by rw [← e]; exact a) (by rw [← e]; exact b), fun s hs => h4 s (by rw [← e]; exact hs)⟩
  rcases h2 q (by rw [← e]; exact hq) with z | ⟨t, ht, z⟩
  · exact Or.inl z
  · exact Or.inr ⟨t, by rw [e]; exact ht, z⟩
theorem TrW.come {G0 G : xHp} {x : Nat} {hk : xHl} {rk : xRw} {rt : Option Nat} {ch mo : Int32} {t v : Nat} (hT : TrW G0 G x hk rk rt ch mo) (hv : v < 1000000) : TrW G0 (xup G (x + 43) (eI 0 7 (upd (nF (hk 5)) t (nI v)))) x (set2 hk 5 t v) rk rt ch mo := by
  obtain ⟨t1, ⟨t21, t22, t23⟩, ⟨wd, sk, t3⟩, t4⟩ := hT
  exact ⟨xup_of (by omega) t1, ⟨xup_of (by omega) t21, t22.setA5 t v hv, xup_of (by omega) t23⟩, ⟨wd, sk, t3.fr (fun a b c => xup_ne (by omega))⟩, t4.tr (fun a ha => xup_ne (by omega))⟩
def lateS (hl : xHl) (rv : Option (List Nat)) (r : xRw) (s m : Nat) : Int32 := if 7 ≤ hl 0 4 ∨ decide (∃ q, q < hl 0 3 ∧ 0 < hl 3 (q * 4 + s)) = false then -2 else lateF hl rv r s m (hl 0 0 + 1 - m)
theorem lt_m1 {m : Nat} (h : m < 2 ^ 31) : nI m + (-1) < nI m := by
  cases m with
  | zero => decide
  | succ m => rw [pk_m1]; exact nI_lt (by omega) h
