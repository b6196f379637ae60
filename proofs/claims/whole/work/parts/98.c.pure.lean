/-! ===== bits of what is taken, sums from above ===== -/
def hasB (v w : Int32) : Bool := decide ((v >>> (w &&& 31)) &&& nI 1 = nI 1)
theorem bit_chk : ∀ v, v < 128 → ∀ t, t < 7 → hasB (nI v) (nI t) = v.testBit t ∧ (nI v ||| (nI 1 <<< (nI t &&& 31))) = nI (v ||| 2 ^ t) ∧ v ||| 2 ^ t < 128 := by decide +kernel
theorem sub_1 (n : Nat) : nI n - nI 1 = nI n + (-1) := by rw [Int32.sub_eq_add_neg]; rfl
def TkR (v : Nat) (ρ : Nat → Nat) (n M : Nat) : Prop := v < 128 ∧ ∀ t, t < 7 → (v.testBit t = true ↔ ∃ i, n ≤ i ∧ i < M ∧ ρ i = t + 1)
theorem tk_M {ρ : Nat → Nat} {M : Nat} : TkR 0 ρ M M := ⟨by decide, fun t _ => ⟨fun h => absurd h (by rw [Nat.zero_testBit]; decide), fun ⟨i, h1, h2, _⟩ => absurd h1 (by omega)⟩⟩
theorem tk_none {ρ : Nat → Nat} {v n M : Nat} (h : TkR v ρ (n + 1) M) (h0 : ρ n = 0) : TkR v ρ n M := by
  refine ⟨h.1, fun t ht => (h.2 t ht).trans ⟨fun ⟨i, h1, h2, h3⟩ => ⟨i, by omega, h2, h3⟩, fun ⟨i, h1, h2, h3⟩ => ⟨i, ?_, h2, h3⟩⟩⟩
  by_cases e : i = n
  · subst e; omega
  · omega
theorem tk_thing {ρ : Nat → Nat} {v n M t : Nat} (h : TkR v ρ (n + 1) M) (hn : n < M) (ht : ρ n = t + 1) (h7 : t < 7) : TkR (v ||| 2 ^ t) ρ n M := by
  refine ⟨(bit_chk v h.1 t h7).2.2, fun i hi => ?_⟩
  rw [Nat.testBit_or, Nat.testBit_two_pow, Bool.or_eq_true, h.2 i hi]
  constructor
  · rintro (⟨j, h1, h2, h3⟩ | h1)
    · exact ⟨j, by omega, h2, h3⟩
    · have e := of_decide_eq_true h1
      exact ⟨n, Nat.le_refl n, hn, by omega⟩
  · rintro ⟨j, h1, h2, h3⟩
    by_cases e : j = n
    · subst e; right; exact decide_eq_true (by omega)
    · left; exact ⟨j, by omega, h2, h3⟩
def UsR (f : Nat → Int32) (hl : xHl) (ρ : Nat → Nat) (n : Nat) : Prop := ∀ s, s < hl 0 2 → f s = nI (UN hl ρ s (hl 0 3) - UN hl ρ s n)
theorem us_M {f : Nat → Int32} {hl : xHl} {ρ : Nat → Nat} (h : ∀ s, s < hl 0 2 → f s = nI 0) : UsR f hl ρ (hl 0 3) := fun s hs => by rw [h s hs, Nat.sub_self]
theorem us_none {f : Nat → Int32} {hl : xHl} {ρ : Nat → Nat} {n : Nat} (h : UsR f hl ρ (n + 1)) (h0 : ρ n = 0) : UsR f hl ρ n := fun s hs => by
  have e : UN hl ρ s (n + 1) = UN hl ρ s n + cU hl ρ s n := rfl
  have e2 : cU hl ρ s n = 0 := if_neg (fun z => z.1 h0)
  rw [h s hs, e, e2, Nat.add_zero]
theorem un_thing {hl : xHl} {ρ : Nat → Nat} {n t : Nat} (hn : n < hl 0 3) (ht : ρ n = t + 1) : UN hl ρ (hl 4 t) (hl 0 3) - UN hl ρ (hl 4 t) (n + 1) + hl 7 t = UN hl ρ (hl 4 t) (hl 0 3) - UN hl ρ (hl 4 t) n := by
  have e : UN hl ρ (hl 4 t) (n + 1) = UN hl ρ (hl 4 t) n + cU hl ρ (hl 4 t) n := rfl
  rw [cU_at ht] at e
  have hm := UN_mono (hl := hl) (ρ := ρ) (s := hl 4 t) (show n + 1 ≤ hl 0 3 by omega)
  omega
theorem us_thing {f : Nat → Int32} {hl : xHl} {ρ : Nat → Nat} {n t : Nat} (h : UsR f hl ρ (n + 1)) (hn : n < hl 0 3) (ht : ρ n = t + 1) : UsR (upd f (hl 4 t) (nI (UN hl ρ (hl 4 t) (hl 0 3) - UN hl ρ (hl 4 t) (n + 1) + hl 7 t))) hl ρ n := fun s hs => by
  by_cases e : s = hl 4 t
  · subst e; rw [upd_at, un_thing hn ht]
  · rw [upd_off e, h s hs]
    have e1 : UN hl ρ s (n + 1) = UN hl ρ s n + cU hl ρ s n := rfl
    have e2 : cU hl ρ s n = 0 := if_neg (fun z => e (by rw [← z.2, ht]; rfl))
    rw [e1, e2, Nat.add_zero]
theorem ws_none {hl : xHl} {ρ : Nat → Nat} {n : Nat} (h0 : ρ n = 0) : WSm hl ρ (n + 1) = WSm hl ρ n := by
  show WSm hl ρ n + (if ρ n = 0 then 0 else hl 6 (ρ n - 1)) = _
  rw [if_pos h0, Nat.add_zero]
theorem ms_none {hl : xHl} {ρ : Nat → Nat} {n : Nat} (h0 : ρ n = 0) : MSm hl ρ (n + 1) = MSm hl ρ n := by
  show MSm hl ρ n + (if ρ n = 0 then 0 else effS hl n (ρ n - 1)) = _
  rw [if_pos h0, Nat.add_zero]
theorem ws_thing {hl : xHl} {ρ : Nat → Nat} {n t : Nat} (hn : n < hl 0 3) (ht : ρ n = t + 1) : WSm hl ρ (hl 0 3) - WSm hl ρ (n + 1) + hl 6 t = WSm hl ρ (hl 0 3) - WSm hl ρ n := by
  have e : WSm hl ρ (n + 1) = WSm hl ρ n + (if ρ n = 0 then 0 else hl 6 (ρ n - 1)) := rfl
  rw [if_neg (by omega), ht, show t + 1 - 1 = t by omega] at e
  have hm := WS_mono (hl := hl) (ρ := ρ) (show n + 1 ≤ hl 0 3 by omega)
  omega
theorem ms_thing {hl : xHl} {ρ : Nat → Nat} {n t : Nat} (hn : n < hl 0 3) (ht : ρ n = t + 1) : MSm hl ρ (hl 0 3) - MSm hl ρ (n + 1) + effS hl n t = MSm hl ρ (hl 0 3) - MSm hl ρ n := by
  have e : MSm hl ρ (n + 1) = MSm hl ρ n + (if ρ n = 0 then 0 else effS hl n (ρ n - 1)) := rfl
  rw [if_neg (by omega), ht, show t + 1 - 1 = t by omega] at e
  have hm := MS_mono (hl := hl) (ρ := ρ) (show n + 1 ≤ hl 0 3 by omega)
  omega
theorem UN_le {hl : xHl} {ρ : Nat → Nat} {s : Nat} (hO : HallOk hl) : ∀ {q : Nat}, (∀ i, i < q → ρ i ≤ hl 0 4) → UN hl ρ s q ≤ q
  | 0, _ => Nat.le_refl 0
  | q + 1, h => by
    have i1 := UN_le (hl := hl) (ρ := ρ) (s := s) hO (fun i hi => h i (show i < q + 1 by omega)) (q := q)
    show UN hl ρ s q + cU hl ρ s q ≤ q + 1
    have i2 : cU hl ρ s q ≤ 1 := by
      unfold cU
      by_cases e : ρ q ≠ 0 ∧ hl 4 (ρ q - 1) = s
      · rw [if_pos e]
        have := h q (by omega)
        exact (hO.2.2.2.1 (ρ q - 1) (by omega)).2.1
      · rw [if_neg e]; omega
    omega
def RwR (f : Nat → Int32) (ρ : Nat → Nat) (n M : Nat) : Prop := ∀ i, n ≤ i → i < M → f i = dI (ρ i)
theorem rw_st {f : Nat → Int32} {ρ : Nat → Nat} {n M : Nat} {x : Int32} (h : RwR f ρ (n + 1) M) (hx : x = dI (ρ n)) : RwR (upd f n x) ρ n M := fun i h1 h2 => by
  by_cases e : i = n
  · subst e; rw [upd_at, hx]
  · rw [upd_off e]; exact h i (by omega) h2
theorem rest_s {o c M n : Nat} (hn : n < M) : c / o ^ (M - (n + 1)) / o = c / o ^ (M - n) := by
  rw [Nat.div_div_eq_div_mul, show M - n = M - (n + 1) + 1 by omega, Nat.pow_succ]
noncomputable def mtB (hl : xHl) (r : xRw) (P : Nat → Nat) (b : Nat → Int32) (c : Nat) : xB := itF (fun c B => lfB hl r P (rwD hl c) B) c (-1, nI 0, b)
theorem mtB_s {hl : xHl} {r : xRw} {P : Nat → Nat} {b : Nat → Int32} {c : Nat} : mtB hl r P b (c + 1) = lfB hl r P (rwD hl c) (mtB hl r P b c) := rfl
theorem mtB_n {hl : xHl} {r : xRw} {P : Nat → Nat} {b : Nat → Int32} {c : Nat} (h : okB2 hl r P (rwD hl c) = false) : mtB hl r P b (c + 1) = mtB hl r P b c := lf_n (ok2_q h)
theorem mtB_k {hl : xHl} {r : xRw} {P : Nat → Nat} {b : Nat → Int32} {c : Nat} (h : okB2 hl r P (rwD hl c) = true) (hk : ¬ ((mtB hl r P b c).1 < nI (WSm hl (rwD hl c) (hl 0 3)) ∨ (nI (WSm hl (rwD hl c) (hl 0 3)) = (mtB hl r P b c).1 ∧ nI (MSm hl (rwD hl c) (hl 0 3)) < (mtB hl r P b c).2.1))) : mtB hl r P b (c + 1) = mtB hl r P b c := by
  rw [mtB_s, lf_y (ok2_p h)]; exact if_neg hk
theorem mtB_y {hl : xHl} {r : xRw} {P : Nat → Nat} {b : Nat → Int32} {c : Nat} (h : okB2 hl r P (rwD hl c) = true) (hk : (mtB hl r P b c).1 < nI (WSm hl (rwD hl c) (hl 0 3)) ∨ (nI (WSm hl (rwD hl c) (hl 0 3)) = (mtB hl r P b c).1 ∧ nI (MSm hl (rwD hl c) (hl 0 3)) < (mtB hl r P b c).2.1)) : mtB hl r P b (c + 1) = (nI (WSm hl (rwD hl c) (hl 0 3)), nI (MSm hl (rwD hl c) (hl 0 3)), fun j => dI (rwD hl c j)) := by
  rw [mtB_s, lf_y (ok2_p h)]; exact if_pos hk
theorem mtB_e {hl : xHl} {r : xRw} {P : Nat → Nat} {b : Nat → Int32} (hO : HallOk hl) (hP : ∀ s, s < hl 0 2 → P s < 1000 ∧ r (1 + s) = nI (P s)) : BR (hl 0 3) (mtR hl r) (mtB hl r P b ((hl 0 4 + 1) ^ hl 0 3)) := mt_code hO hP (nI 0) b
theorem pow_le4 {a k : Nat} (ha : a ≤ 7) (hk : k ≤ 4) : (a + 1) ^ k ≤ 4096 := Nat.le_trans (Nat.pow_le_pow_left (show a + 1 ≤ 8 by omega) k) (Nat.le_trans (Nat.pow_le_pow_right (show 0 < 8 by decide) hk) (by decide))
noncomputable abbrev lyQ (G0 : xHp) (h y : Nat) (hl : xHl) (r : xRw) (sc : Nat × Nat × Int32) (A : Nat → Nat → Int32) (F : Nat → Int32) (wa sa : Nat → Int64) (P : Nat → Nat) (ρ : Nat → Nat) : xPost := xEx (fun e : ((Nat → Nat → Int32) × (Nat → Int32)) × xHp => MW G0 e.2 y hl r sc e.1.1 e.1.2 wa sa ∧ AS A e.1.1 ∧ e.1.1 40 = A 40 ∧ FS F e.1.2 ∧ (okB2 hl r P ρ = true → (∀ i, i < hl 0 3 → e.1.1 39 i = dI (ρ i)) ∧ e.1.2 57 = nI (WSm hl ρ (hl 0 3)) ∧ e.1.2 58 = nI (MSm hl ρ (hl 0 3)))) (fun _ => some (.int (bI (okB2 hl r P ρ)))) (fun _ => h) (fun e => e.2)
