/-! ===== rows by codes ===== -/
def extC (hl : xHl) (ρ : Nat → Nat) (q n c : Nat) : Nat → Nat := fun i => if q ≤ i ∧ i < q + n then c / (hl 0 4 + 1) ^ (q + n - 1 - i) % (hl 0 4 + 1) else ρ i
theorem itF_add {α : Type} {f : Nat → α → α} {a : Nat} {s : α} : ∀ b, itF f (a + b) s = itF (fun c => f (a + c)) b (itF f a s)
  | 0 => rfl
  | b + 1 => by
    show f (a + b) (itF f (a + b) s) = f (a + b) (itF (fun c => f (a + c)) b (itF f a s))
    rw [itF_add b]
theorem itF_mul {α : Type} {f : Nat → α → α} {b : Nat} {s : α} : ∀ a, itF f (a * b) s = itF (fun d s => itF (fun c => f (d * b + c)) b s) a s
  | 0 => by rw [Nat.zero_mul]; rfl
  | a + 1 => by
    rw [Nat.succ_mul, itF_add, itF_mul a]
    rfl
theorem itF_cb {α : Type} {f g : Nat → α → α} : ∀ {n : Nat} {s : α}, (∀ i, i < n → ∀ a, f i a = g i a) → itF f n s = itF g n s
  | 0, _, _ => rfl
  | n + 1, s, h => by
    show f n (itF f n s) = g n (itF g n s)
    rw [itF_cb (fun i hi => h i (by omega)), h n (by omega)]
theorem ext_d {hl : xHl} {ρ : Nat → Nat} {q n d c : Nat} (hd : d < hl 0 4 + 1) (hc : c < (hl 0 4 + 1) ^ n) : extC hl ρ q (n + 1) (d * (hl 0 4 + 1) ^ n + c) = extC hl (set1 ρ q d) (q + 1) n c := by
  have hpos : ∀ k, 0 < (hl 0 4 + 1) ^ k := fun k => Nat.pow_pos (by omega)
  funext i
  unfold extC
  by_cases e : i = q
  · subst e
    rw [if_pos (by omega), if_neg (by omega), set1_at, show i + (n + 1) - 1 - i = n by omega, Nat.mul_comm, Nat.mul_add_div (hpos n), Nat.div_eq_of_lt hc, Nat.add_zero, Nat.mod_eq_of_lt hd]
  · by_cases h : q ≤ i ∧ i < q + (n + 1)
    · rw [if_pos h, if_pos (by omega), show q + 1 + n - 1 - i = q + (n + 1) - 1 - i by omega]
      generalize hk : q + (n + 1) - 1 - i = k
      have hkn : k < n := by omega
      obtain ⟨m, hm⟩ : ∃ m, n = k + 1 + m := ⟨n - (k + 1), by omega⟩
      have e1 : d * (hl 0 4 + 1) ^ n + c = (hl 0 4 + 1) ^ k * ((hl 0 4 + 1) * ((hl 0 4 + 1) ^ m * d)) + c := by
        rw [hm, Nat.pow_add, Nat.pow_succ]
        congr 1
        rw [Nat.mul_comm d, Nat.mul_assoc, Nat.mul_assoc]
      rw [e1, Nat.mul_add_div (hpos k), Nat.mul_add_mod]
    · rw [if_neg h, if_neg (by omega), set1_ne e]
theorem rf_code {hl : xHl} {r : xRw} {P : Nat → Nat} : ∀ (n q : Nat) (ρ : Nat → Nat) (B : xB), RFm hl r P n q ρ B = itF (fun c B => lfB hl r P (extC hl ρ q n c) B) ((hl 0 4 + 1) ^ n) B
  | 0, q, ρ, B => by
    show lfB hl r P ρ B = lfB hl r P (extC hl ρ q 0 0) B
    have e : extC hl ρ q 0 0 = ρ := by funext i; unfold extC; rw [if_neg (by omega)]
    rw [e]
  | n + 1, q, ρ, B => by
    show itF (fun d B => RFm hl r P n (q + 1) (set1 ρ q d) B) (hl 0 4 + 1) B = _
    rw [Nat.pow_succ, Nat.mul_comm, itF_mul]
    refine itF_cb (fun d hd a => ?_)
    rw [rf_code n (q + 1) (set1 ρ q d) a]
    refine itF_cb (fun c hc b => ?_)
    rw [ext_d hd hc]
def rwD (hl : xHl) (c : Nat) : Nat → Nat := extC hl (fun _ => 0) 0 (hl 0 3) c
theorem rwD_at {hl : xHl} {c i : Nat} (h : i < hl 0 3) : rwD hl c i = c / (hl 0 4 + 1) ^ (hl 0 3 - 1 - i) % (hl 0 4 + 1) := by
  unfold rwD extC
  rw [if_pos (by omega), Nat.zero_add]
theorem rwD_le {hl : xHl} {c i : Nat} (h : i < hl 0 3) : rwD hl c i ≤ hl 0 4 := by
  rw [rwD_at h]
  have := Nat.mod_lt (c / (hl 0 4 + 1) ^ (hl 0 3 - 1 - i)) (show 0 < hl 0 4 + 1 by omega)
  omega
theorem mt_code {hl : xHl} {r : xRw} {P : Nat → Nat} (hO : HallOk hl) (hP : ∀ s, s < hl 0 2 → P s < 1000 ∧ r (1 + s) = nI (P s)) (a : Int32) (b : Nat → Int32) : BR (hl 0 3) (mtR hl r) (itF (fun c B => lfB hl r P (rwD hl c) B) ((hl 0 4 + 1) ^ hl 0 3) (-1, a, b)) := by
  have := mt_rf hO hP a b (fun _ => 0)
  rw [rf_code] at this
  exact this
/-! sums from above -/
theorem UN_mono {hl : xHl} {ρ : Nat → Nat} {s n : Nat} : ∀ {m : Nat}, n ≤ m → UN hl ρ s n ≤ UN hl ρ s m
  | 0, h => by rw [show n = 0 by omega]; exact Nat.le_refl _
  | m + 1, h => by
    by_cases e : n = m + 1
    · rw [e]; exact Nat.le_refl _
    · have := UN_mono (hl := hl) (ρ := ρ) (s := s) (show n ≤ m by omega)
      show _ ≤ UN hl ρ s m + cU hl ρ s m
      omega
theorem WS_mono {hl : xHl} {ρ : Nat → Nat} {n : Nat} : ∀ {m : Nat}, n ≤ m → WSm hl ρ n ≤ WSm hl ρ m
  | 0, h => by rw [show n = 0 by omega]; exact Nat.le_refl _
  | m + 1, h => by
    by_cases e : n = m + 1
    · rw [e]; exact Nat.le_refl _
    · have := WS_mono (hl := hl) (ρ := ρ) (show n ≤ m by omega)
      show _ ≤ WSm hl ρ m + _
      omega
theorem MS_mono {hl : xHl} {ρ : Nat → Nat} {n : Nat} : ∀ {m : Nat}, n ≤ m → MSm hl ρ n ≤ MSm hl ρ m
  | 0, h => by rw [show n = 0 by omega]; exact Nat.le_refl _
  | m + 1, h => by
    by_cases e : n = m + 1
    · rw [e]; exact Nat.le_refl _
    · have := MS_mono (hl := hl) (ρ := ρ) (show n ≤ m by omega)
      show _ ≤ MSm hl ρ m + _
      omega
/-- the menders from n on are laid -/
def okT (hl : xHl) (r : xRw) (P : Nat → Nat) (ρ : Nat → Nat) (n : Nat) : Prop := (∀ i, n ≤ i → i < hl 0 3 → ρ i ≠ 0 → r (5 + i) = -1 ∧ canT hl r i (ρ i - 1) = true ∧ ∀ i', n ≤ i' → i' < hl 0 3 → i' ≠ i → ρ i' ≠ ρ i) ∧ ∀ s, s < hl 0 2 → UN hl ρ s (hl 0 3) - UN hl ρ s n ≤ P s
theorem okT_0 {hl : xHl} {r : xRw} {P : Nat → Nat} {c : Nat} (h : okT hl r P (rwD hl c) 0) : okP hl r P (rwD hl c) (hl 0 3) := by
  refine ⟨fun i hi h0 => ?_, fun s hs => ?_⟩
  · obtain ⟨a1, a2, a3⟩ := h.1 i (Nat.zero_le i) hi h0
    obtain ⟨b1, b2, b3⟩ := of_decide_eq_true a2
    exact ⟨rwD_le hi, a1, b1, b2, fun i' hi' hne => a3 i' (Nat.zero_le i') hi' hne⟩
  · have := h.2 s hs
    have e : UN hl (rwD hl c) s 0 = 0 := rfl
    omega
theorem okT_M {hl : xHl} {r : xRw} {P : Nat → Nat} {ρ : Nat → Nat} : okT hl r P ρ (hl 0 3) := ⟨fun i h1 h2 => absurd h1 (by omega), fun s _ => by omega⟩
theorem okT_none {hl : xHl} {r : xRw} {P : Nat → Nat} {ρ : Nat → Nat} {n : Nat} (h : okT hl r P ρ (n + 1)) (h0 : ρ n = 0) : okT hl r P ρ n := by
  refine ⟨fun i h1 h2 h3 => ?_, fun s hs => ?_⟩
  · have hin : i ≠ n := fun e => h3 (by rw [e]; exact h0)
    obtain ⟨a1, a2, a3⟩ := h.1 i (by omega) h2 h3
    refine ⟨a1, a2, fun i' g1 g2 g3 => ?_⟩
    by_cases e : i' = n
    · rw [e, h0]; exact fun z => h3 z.symm
    · exact a3 i' (by omega) g2 g3
  · have e : UN hl ρ s (n + 1) = UN hl ρ s n + cU hl ρ s n := rfl
    have e2 : cU hl ρ s n = 0 := if_neg (fun z => z.1 h0)
    have := h.2 s hs
    omega
theorem okT_thing {hl : xHl} {r : xRw} {P : Nat → Nat} {ρ : Nat → Nat} {n t : Nat} (h : okT hl r P ρ (n + 1)) (hn : n < hl 0 3) (ht : ρ n = t + 1) (hf : r (5 + n) = -1) (hc : canT hl r n t = true) (hnt : ¬ ∃ i, n + 1 ≤ i ∧ i < hl 0 3 ∧ ρ i = t + 1) (hu : UN hl ρ (hl 4 t) (hl 0 3) - UN hl ρ (hl 4 t) n ≤ P (hl 4 t)) : okT hl r P ρ n := by
  refine ⟨fun i h1 h2 h3 => ?_, fun s hs => ?_⟩
  · by_cases e : i = n
    · subst e
      refine ⟨hf, by rw [ht]; exact hc, fun i' g1 g2 g3 z => hnt ⟨i', by omega, g2, by rw [z, ht]⟩⟩
    · obtain ⟨a1, a2, a3⟩ := h.1 i (by omega) h2 h3
      refine ⟨a1, a2, fun i' g1 g2 g3 => ?_⟩
      by_cases e2 : i' = n
      · rw [e2, ht]; exact fun z => hnt ⟨i, by omega, h2, z.symm⟩
      · exact a3 i' (by omega) g2 g3
  · by_cases e : s = hl 4 t
    · rw [e]; exact hu
    · have e1 : UN hl ρ s (n + 1) = UN hl ρ s n + cU hl ρ s n := rfl
      have e2 : cU hl ρ s n = 0 := if_neg (fun z => e (by rw [← z.2, ht]; rfl))
      have := h.2 s hs
      omega
theorem bad_free {hl : xHl} {r : xRw} {P : Nat → Nat} {ρ : Nat → Nat} {n t : Nat} (hn : n < hl 0 3) (ht : ρ n = t + 1) (h : ¬ r (5 + n) = -1) : ¬ okP hl r P ρ (hl 0 3) := fun z => h (z.1 n hn (by omega)).2.1
theorem bad_tak {hl : xHl} {r : xRw} {P : Nat → Nat} {ρ : Nat → Nat} {n t : Nat} (hn : n < hl 0 3) (ht : ρ n = t + 1) (h : ∃ i, n + 1 ≤ i ∧ i < hl 0 3 ∧ ρ i = t + 1) : ¬ okP hl r P ρ (hl 0 3) := fun z => by
  obtain ⟨i, h1, h2, h3⟩ := h
  exact (z.1 n hn (by omega)).2.2.2.2 i h2 (by omega) (by omega)
theorem cU_at {hl : xHl} {ρ : Nat → Nat} {n t : Nat} (ht : ρ n = t + 1) : cU hl ρ (hl 4 t) n = hl 7 t := by
  unfold cU
  rw [ht, show t + 1 - 1 = t by omega, if_pos ⟨by omega, rfl⟩]
theorem bad_can {hl : xHl} {r : xRw} {P : Nat → Nat} {ρ : Nat → Nat} {n t : Nat} (hO : HallOk hl) (hP : ∀ s, s < hl 0 2 → P s < 1000 ∧ r (1 + s) = nI (P s)) (hn : n < hl 0 3) (ht : ρ n = t + 1) (ht4 : t < hl 0 4) (h : canT hl r n t = false) : ¬ okP hl r P ρ (hl 0 3) := fun z => by
  obtain ⟨a1, a2, a3, a4, a5⟩ := z.1 n hn (by omega)
  rw [ht, show t + 1 - 1 = t by omega] at a3 a4
  have p1 := (hO.2.2.2.1 t ht4).1
  refine absurd (of_decide_eq_false h) (fun w => w ⟨a3, a4, ?_⟩)
  by_cases e : hl 7 t = 0
  · exact Or.inl e
  · right
    have hu := z.2 (hl 4 t) p1
    have hm := UN_mono (hl := hl) (ρ := ρ) (s := hl 4 t) (show n + 1 ≤ hl 0 3 by omega)
    have e1 : UN hl ρ (hl 4 t) (n + 1) = UN hl ρ (hl 4 t) n + cU hl ρ (hl 4 t) n := rfl
    rw [cU_at ht] at e1
    obtain ⟨q1, q2⟩ := hP _ p1
    rw [q2]
    exact (nI_ltI (a := 0) (by decide) (by omega)).mpr (by omega)
theorem bad_use {hl : xHl} {r : xRw} {P : Nat → Nat} {ρ : Nat → Nat} {n s : Nat} (hs : s < hl 0 2) (h : P s < UN hl ρ s (hl 0 3) - UN hl ρ s n) : ¬ okP hl r P ρ (hl 0 3) := fun z => by
  have := z.2 s hs
  omega
noncomputable def okB2 (hl : xHl) (r : xRw) (P : Nat → Nat) (ρ : Nat → Nat) : Bool := @decide (okP hl r P ρ (hl 0 3)) (Classical.propDecidable _)
theorem ok2_t {hl : xHl} {r : xRw} {P : Nat → Nat} {ρ : Nat → Nat} (h : okP hl r P ρ (hl 0 3)) : okB2 hl r P ρ = true := @decide_eq_true _ (Classical.propDecidable _) h
theorem ok2_f {hl : xHl} {r : xRw} {P : Nat → Nat} {ρ : Nat → Nat} (h : ¬ okP hl r P ρ (hl 0 3)) : okB2 hl r P ρ = false := @decide_eq_false _ (Classical.propDecidable _) h
theorem ok2_p {hl : xHl} {r : xRw} {P : Nat → Nat} {ρ : Nat → Nat} (h : okB2 hl r P ρ = true) : okP hl r P ρ (hl 0 3) := @of_decide_eq_true _ (Classical.propDecidable _) h
theorem ok2_q {hl : xHl} {r : xRw} {P : Nat → Nat} {ρ : Nat → Nat} (h : okB2 hl r P ρ = false) : ¬ okP hl r P ρ (hl 0 3) := @of_decide_eq_false _ (Classical.propDecidable _) h
