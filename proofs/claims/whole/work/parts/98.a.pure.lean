/-! ===== whom to match: rows by their digits (0 is none, t + 1 the thing t) ===== -/
def dI (d : Nat) : Int32 := if d = 0 then -1 else nI (d - 1)
def cU (hl : xHl) (ρ : Nat → Nat) (s i : Nat) : Nat := if ρ i ≠ 0 ∧ hl 4 (ρ i - 1) = s then hl 7 (ρ i - 1) else 0
def UN (hl : xHl) (ρ : Nat → Nat) (s : Nat) : Nat → Nat
  | 0 => 0
  | q + 1 => UN hl ρ s q + cU hl ρ s q
def WSm (hl : xHl) (ρ : Nat → Nat) : Nat → Nat
  | 0 => 0
  | q + 1 => WSm hl ρ q + (if ρ q = 0 then 0 else hl 6 (ρ q - 1))
def MSm (hl : xHl) (ρ : Nat → Nat) : Nat → Nat
  | 0 => 0
  | q + 1 => MSm hl ρ q + (if ρ q = 0 then 0 else effS hl q (ρ q - 1))
def okM (hl : xHl) (r : xRw) (ρ : Nat → Nat) (q i : Nat) : Prop := ρ i ≠ 0 → ρ i ≤ hl 0 4 ∧ r (5 + i) = -1 ∧ r (21 + (ρ i - 1)) = 1 ∧ 0 < hl 3 (i * 4 + hl 4 (ρ i - 1)) ∧ ∀ i', i' < q → i' ≠ i → ρ i' ≠ ρ i
def okP (hl : xHl) (r : xRw) (P : Nat → Nat) (ρ : Nat → Nat) (q : Nat) : Prop := (∀ i, i < q → okM hl r ρ q i) ∧ ∀ s, s < hl 0 2 → UN hl ρ s q ≤ P s
def set1 (ρ : Nat → Nat) (q d : Nat) : Nat → Nat := fun i => if i = q then d else ρ i
theorem set1_at {ρ : Nat → Nat} {q d : Nat} : set1 ρ q d q = d := if_pos rfl
theorem set1_ne {ρ : Nat → Nat} {q d i : Nat} (h : i ≠ q) : set1 ρ q d i = ρ i := if_neg h
theorem UN_cg {hl : xHl} {ρ ρ' : Nat → Nat} {s : Nat} : ∀ {q : Nat}, (∀ i, i < q → ρ' i = ρ i) → UN hl ρ' s q = UN hl ρ s q
  | 0, _ => rfl
  | q + 1, h => by
    show UN hl ρ' s q + cU hl ρ' s q = UN hl ρ s q + cU hl ρ s q
    rw [UN_cg (fun i hi => h i (by omega))]
    unfold cU
    rw [h q (by omega)]
theorem WS_cg {hl : xHl} {ρ ρ' : Nat → Nat} : ∀ {q : Nat}, (∀ i, i < q → ρ' i = ρ i) → WSm hl ρ' q = WSm hl ρ q
  | 0, _ => rfl
  | q + 1, h => by
    simp only [WSm]
    rw [WS_cg (fun i hi => h i (by omega)), h q (by omega)]
theorem MS_cg {hl : xHl} {ρ ρ' : Nat → Nat} : ∀ {q : Nat}, (∀ i, i < q → ρ' i = ρ i) → MSm hl ρ' q = MSm hl ρ q
  | 0, _ => rfl
  | q + 1, h => by
    simp only [MSm]
    rw [MS_cg (fun i hi => h i (by omega)), h q (by omega)]
theorem UN_set {hl : xHl} {ρ : Nat → Nat} {s q d : Nat} : UN hl (set1 ρ q d) s (q + 1) = UN hl ρ s q + (if d ≠ 0 ∧ hl 4 (d - 1) = s then hl 7 (d - 1) else 0) := by
  show UN hl (set1 ρ q d) s q + cU hl (set1 ρ q d) s q = _
  rw [UN_cg (ρ := ρ) (fun i hi => set1_ne (by omega))]
  unfold cU
  rw [set1_at]
theorem WS_set {hl : xHl} {ρ : Nat → Nat} {q d : Nat} : WSm hl (set1 ρ q d) (q + 1) = WSm hl ρ q + (if d = 0 then 0 else hl 6 (d - 1)) := by
  simp only [WSm]
  rw [WS_cg (ρ := ρ) (fun i hi => set1_ne (by omega)), set1_at]
theorem MS_set {hl : xHl} {ρ : Nat → Nat} {q d : Nat} : MSm hl (set1 ρ q d) (q + 1) = MSm hl ρ q + (if d = 0 then 0 else effS hl q (d - 1)) := by
  simp only [MSm]
  rw [MS_cg (ρ := ρ) (fun i hi => set1_ne (by omega)), set1_at]
/-- what holds of a row holds of its beginning -/
theorem okP_pre {hl : xHl} {r : xRw} {P : Nat → Nat} {ρ : Nat → Nat} {q d : Nat} (h : okP hl r P (set1 ρ q d) (q + 1)) : okP hl r P ρ q := by
  refine ⟨fun i hi h0 => ?_, fun s hs => ?_⟩
  · have e : set1 ρ q d i = ρ i := set1_ne (by omega)
    have h1 := h.1 i (by omega) (by rw [e]; exact h0)
    rw [e] at h1
    obtain ⟨a1, a2, a3, a4, a5⟩ := h1
    refine ⟨a1, a2, a3, a4, fun i' hi' hne => ?_⟩
    have := a5 i' (by omega) hne
    rw [set1_ne (by omega)] at this
    exact this
  · have := h.2 s hs
    rw [UN_set] at this
    omega
noncomputable def lfB (hl : xHl) (r : xRw) (P : Nat → Nat) (ρ : Nat → Nat) (B : xB) : xB := @ite xB (okP hl r P ρ (hl 0 3)) (Classical.propDecidable _) (keepB B (nI (WSm hl ρ (hl 0 3))) (nI (MSm hl ρ (hl 0 3))) (fun j => dI (ρ j))) B
theorem lf_y {hl : xHl} {r : xRw} {P : Nat → Nat} {ρ : Nat → Nat} {B : xB} (h : okP hl r P ρ (hl 0 3)) : lfB hl r P ρ B = keepB B (nI (WSm hl ρ (hl 0 3))) (nI (MSm hl ρ (hl 0 3))) (fun j => dI (ρ j)) := @if_pos _ (Classical.propDecidable _) h _ _ _
theorem lf_n {hl : xHl} {r : xRw} {P : Nat → Nat} {ρ : Nat → Nat} {B : xB} (h : ¬ okP hl r P ρ (hl 0 3)) : lfB hl r P ρ B = B := @if_neg _ (Classical.propDecidable _) h _ _ _
noncomputable def RFm (hl : xHl) (r : xRw) (P : Nat → Nat) : Nat → Nat → (Nat → Nat) → xB → xB
  | 0, _, ρ, B => lfB hl r P ρ B
  | n + 1, q, ρ, B => itF (fun d B => RFm hl r P n (q + 1) (set1 ρ q d) B) (hl 0 4 + 1) B
theorem itF_id {α : Type} {f : Nat → α → α} : ∀ {n : Nat} {s : α}, (∀ i, i < n → ∀ a, f i a = a) → itF f n s = s
  | 0, _, _ => rfl
  | n + 1, s, h => by
    show f n (itF f n s) = s
    rw [itF_id (fun i hi => h i (by omega)), h n (by omega)]
theorem RF_bad {hl : xHl} {r : xRw} {P : Nat → Nat} : ∀ (n q : Nat) (ρ : Nat → Nat) (B : xB), q + n = hl 0 3 → ¬ okP hl r P ρ q → RFm hl r P n q ρ B = B
  | 0, q, ρ, B, hq, h => lf_n (by rw [show hl 0 3 = q by omega]; exact h)
  | n + 1, q, ρ, B, hq, h => itF_id (fun d _ a => RF_bad n (q + 1) (set1 ρ q d) a (by omega) (fun z => h (okP_pre z)))
theorem itF_sh {α : Type} {f : Nat → α → α} : ∀ {n : Nat} {s : α}, itF f (n + 1) s = itF (fun i => f (i + 1)) n (f 0 s)
  | 0, _ => rfl
  | n + 1, s => by
    show f (n + 1) (itF f (n + 1) s) = f (n + 1) (itF (fun i => f (i + 1)) n (f 0 s))
    rw [itF_sh]
theorem itF_rb {α β : Type} {R : α → β → Prop} {f : Nat → α → α} {g : Nat → β → β} : ∀ {n : Nat} {a : α} {b : β}, (∀ i, i < n → ∀ a b, R a b → R (f i a) (g i b)) → R a b → R (itF f n a) (itF g n b)
  | 0, _, _, _, hr => hr
  | n + 1, _, _, h, hr => h n (by omega) _ _ (itF_rb (fun i hi => h i (by omega)) hr)
/-- the class's row behind what a beginning began -/
def HqD (hl : xHl) (r : xRw) (P : Nat → Nat) (rq : xRw) (ρ : Nat → Nat) (q : Nat) : Prop := (∀ t, t < hl 0 4 → ((∃ i, i < q ∧ ρ i = t + 1) → rq (21 + t) = 2) ∧ ((¬ ∃ i, i < q ∧ ρ i = t + 1) → rq (21 + t) = r (21 + t))) ∧ (∀ s, s < hl 0 2 → rq (1 + s) = nI (P s - UN hl ρ s q)) ∧ ∀ i, q ≤ i → i < hl 0 3 → rq (5 + i) = r (5 + i)
section DFL
variable {hl : xHl} {r : xRw} {P : Nat → Nat}
theorem hq_none {rq : xRw} {ρ : Nat → Nat} {q : Nat} (h : HqD hl r P rq ρ q) : HqD hl r P rq (set1 ρ q 0) (q + 1) := by
  obtain ⟨h1, h2, h3⟩ := h
  refine ⟨fun t ht => ?_, fun s hs => ?_, fun i hi hm => h3 i (by omega) hm⟩
  · obtain ⟨a1, a2⟩ := h1 t ht
    refine ⟨fun ⟨i, hi, he⟩ => ?_, fun hn => a2 (fun ⟨i, hi, he⟩ => hn ⟨i, by omega, by rw [set1_ne (by omega)]; exact he⟩)⟩
    by_cases e : i = q
    · subst e; rw [set1_at] at he; omega
    · rw [set1_ne e] at he; exact a1 ⟨i, by omega, he⟩
  · rw [h2 s hs, UN_set, if_neg (by omega), Nat.add_zero]
theorem ok_none {ρ : Nat → Nat} {q : Nat} (h : okP hl r P ρ q) : okP hl r P (set1 ρ q 0) (q + 1) := by
  refine ⟨fun i hi h0 => ?_, fun s hs => ?_⟩
  · by_cases e : i = q
    · subst e; rw [set1_at] at h0; exact absurd rfl h0
    · rw [set1_ne e] at h0 ⊢
      obtain ⟨a1, a2, a3, a4, a5⟩ := h.1 i (by omega) h0
      refine ⟨a1, a2, a3, a4, fun i' hi' hne => ?_⟩
      by_cases e2 : i' = q
      · subst e2; rw [set1_at]; omega
      · rw [set1_ne e2]; exact a5 i' (by omega) hne
  · rw [UN_set, if_neg (by omega), Nat.add_zero]; exact h.2 s hs
theorem can_ok {rq : xRw} {ρ : Nat → Nat} {q t : Nat} (hO : HallOk hl) (hP : ∀ s, s < hl 0 2 → P s < 1000) (h : HqD hl r P rq ρ q) (ho : okP hl r P ρ q) (hq : q < hl 0 3) (ht : t < hl 0 4) (hf : r (5 + q) = -1) (hc : canT hl rq q t = true) : okP hl r P (set1 ρ q (t + 1)) (q + 1) ∧ HqD hl r P (beginR hl rq q t) (set1 ρ q (t + 1)) (q + 1) := by
  obtain ⟨o2, o3, o4, o5, -⟩ := hO
  obtain ⟨p1, p2, -, -⟩ := o5 t ht
  obtain ⟨c1, c2, c3⟩ := of_decide_eq_true hc
  obtain ⟨h1, h2, h3⟩ := h
  have hnt : ¬ ∃ i, i < q ∧ ρ i = t + 1 := fun z => by rw [(h1 t ht).1 z] at c1; exact absurd c1 (by decide)
  have hr1 : r (21 + t) = 1 := by rw [← (h1 t ht).2 hnt]; exact c1
  have hle : UN hl ρ (hl 4 t) q + hl 7 t ≤ P (hl 4 t) := by
    have hu := ho.2 (hl 4 t) p1
    rcases c3 with z | z
    · omega
    · rw [h2 _ p1] at z
      have := hP _ p1
      have := (nI_ltI (a := 0) (by decide) (by omega)).mp z
      omega
  have e1 : t + 1 - 1 = t := by omega
  refine ⟨⟨fun i hi h0 => ?_, fun s hs => ?_⟩, fun t' ht' => ?_, fun s hs => ?_, fun i hi hm => ?_⟩
  · by_cases e : i = q
    · subst e
      rw [set1_at, e1]
      refine ⟨by omega, hf, hr1, c2, fun i' hi' hne => ?_⟩
      rw [set1_ne hne]
      exact fun z => hnt ⟨i', by omega, z⟩
    · rw [set1_ne e] at h0 ⊢
      obtain ⟨a1, a2, a3, a4, a5⟩ := ho.1 i (by omega) h0
      refine ⟨a1, a2, a3, a4, fun i' hi' hne => ?_⟩
      by_cases e2 : i' = q
      · subst e2; rw [set1_at]; exact fun z => hnt ⟨i, by omega, z.symm⟩
      · rw [set1_ne e2]; exact a5 i' (by omega) hne
  · rw [UN_set, e1]
    by_cases e : hl 4 t = s
    · rw [if_pos ⟨by omega, e⟩, ← e]; exact hle
    · rw [if_neg (fun z => e z.2), Nat.add_zero]; exact ho.2 s hs
  · have e21 : beginR hl rq q t (21 + t') = if t' = t then nI 2 else rq (21 + t') := by
      unfold beginR
      rw [upd_off (by omega), upd_off (by omega)]
      by_cases e : t' = t
      · subst e; rw [upd_at, if_pos rfl]
      · rw [upd_off (by omega), upd_off (by omega), if_neg e]
    rw [e21]
    by_cases e : t' = t
    · subst e
      rw [if_pos rfl]
      exact ⟨fun _ => rfl, fun z => absurd ⟨q, by omega, set1_at⟩ z⟩
    · rw [if_neg e]
      obtain ⟨a1, a2⟩ := h1 t' ht'
      refine ⟨fun ⟨i, hi, he⟩ => ?_, fun hn => a2 (fun ⟨i, hi, he⟩ => hn ⟨i, by omega, by rw [set1_ne (by omega)]; exact he⟩)⟩
      by_cases e3 : i = q
      · subst e3; rw [set1_at] at he; omega
      · rw [set1_ne e3] at he; exact a1 ⟨i, by omega, he⟩
  · have e2 : beginR hl rq q t (1 + s) = if s = hl 4 t then rq (1 + s) - nI (hl 7 t) else rq (1 + s) := by
      unfold beginR
      rw [upd_off (by omega), upd_off (by omega), upd_off (by omega)]
      by_cases e : s = hl 4 t
      · rw [e, upd_at, if_pos rfl]
      · rw [upd_off (by omega), if_neg e]
    rw [e2, UN_set, e1, h2 s hs]
    by_cases e : s = hl 4 t
    · rw [if_pos e, if_pos ⟨by omega, e.symm⟩]
      subst e
      rw [pk_sub (by omega)]
      congr 1
      omega
    · rw [if_neg e, if_neg (fun z => e z.2.symm), Nat.add_zero]
  · have e5 : beginR hl rq q t (5 + i) = rq (5 + i) := by
      unfold beginR
      rw [upd_off (by omega), upd_off (by omega), upd_off (by omega), upd_off (by omega)]
    rw [e5]; exact h3 i (by omega) hm
theorem ok_can {rq : xRw} {ρ : Nat → Nat} {q t : Nat} (hO : HallOk hl) (hP : ∀ s, s < hl 0 2 → P s < 1000) (h : HqD hl r P rq ρ q) (ht : t < hl 0 4) (ho : okP hl r P (set1 ρ q (t + 1)) (q + 1)) : r (5 + q) = -1 ∧ canT hl rq q t = true := by
  obtain ⟨o2, o3, o4, o5, -⟩ := hO
  obtain ⟨p1, p2, -, -⟩ := o5 t ht
  obtain ⟨h1, h2, h3⟩ := h
  have e1 : t + 1 - 1 = t := by omega
  obtain ⟨a1, a2, a3, a4, a5⟩ := ho.1 q (by omega) (by rw [set1_at]; omega)
  rw [set1_at, e1] at a3 a4
  have hnt : ¬ ∃ i, i < q ∧ ρ i = t + 1 := fun ⟨i, hi, he⟩ => by
    have := a5 i (by omega) (by omega)
    rw [set1_ne (by omega), set1_at] at this
    exact this he
  refine ⟨a2, decide_eq_true ⟨by rw [(h1 t ht).2 hnt]; exact a3, a4, ?_⟩⟩
  by_cases e : hl 7 t = 0
  · exact Or.inl e
  · right
    have hu := ho.2 (hl 4 t) p1
    rw [UN_set, e1, if_pos ⟨by omega, rfl⟩] at hu
    have := hP _ p1
    rw [h2 _ p1]
    exact (nI_ltI (a := 0) (by decide) (by omega)).mpr (by omega)
def SRx (hl : xHl) (q : Nat) (ρ : Nat → Nat) (S : (Nat → Int32) × xB) (B : xB) : Prop := (∀ j, j < q → S.1 j = dI (ρ j)) ∧ BR (hl 0 3) S.2 B
theorem dfs_rf (hO : HallOk hl) (hP : ∀ s, s < hl 0 2 → P s < 1000) : ∀ (n q : Nat), q + n = hl 0 3 → ∀ {rq : xRw} {w mi : Int32} {S : (Nat → Int32) × xB} {B : xB} {ρ : Nat → Nat}, HqD hl r P rq ρ q → okP hl r P ρ q → w = nI (WSm hl ρ q) → mi = nI (MSm hl ρ q) → SRx hl q ρ S B → SRx hl q ρ (dfsM hl n rq q w mi S) (RFm hl r P n q ρ B)
  | 0, q, hq, rq, w, mi, S, B, ρ, hH, ho, hw, hm, hS => by
    have eq : hl 0 3 = q := by omega
    refine ⟨hS.1, ?_⟩
    show BR (hl 0 3) (keepB S.2 w mi S.1) (lfB hl r P ρ B)
    rw [lf_y (by rw [eq]; exact ho), eq, ← hw, ← hm]
    exact keep_BR (by rw [← eq]; exact hS.2) (fun j hj => hS.1 j hj)
  | n + 1, q, hq, rq, w, mi, S, B, ρ, hH, ho, hw, hm, hS => by
    have hq3 : q < hl 0 3 := by omega
    have dn : ∀ d j, j < q → dI (set1 ρ q d j) = dI (ρ j) := fun d j hj => by rw [set1_ne (by omega)]
    have h1 : SRx hl q ρ (dfsM hl n rq (q + 1) w mi (upd S.1 q (-1), S.2)) (RFm hl r P n (q + 1) (set1 ρ q 0) B) := by
      have := dfs_rf hO hP n (q + 1) (by omega) (rq := rq) (w := w) (mi := mi) (S := (upd S.1 q (-1), S.2)) (B := B) (ρ := set1 ρ q 0) (hq_none hH) (ok_none ho) (by rw [WS_set, if_pos rfl, Nat.add_zero]; exact hw) (by rw [MS_set, if_pos rfl, Nat.add_zero]; exact hm) ⟨fun j hj => by
        by_cases e : j = q
        · subst e; show upd S.1 j (-1) j = _; rw [upd_at, set1_at]; rfl
        · show upd S.1 q (-1) j = _; rw [upd_off e, set1_ne e]; exact hS.1 j (by omega), hS.2⟩
      exact ⟨fun j hj => (this.1 j (by omega)).trans (dn 0 j hj), this.2⟩
    show SRx hl q ρ (dfsM hl (n + 1) rq q w mi S) (itF (fun d B => RFm hl r P n (q + 1) (set1 ρ q d) B) (hl 0 4 + 1) B)
    rw [itF_sh]
    simp only [dfsM]
    have hfree : rq (5 + q) = r (5 + q) := hH.2.2 q (Nat.le_refl q) hq3
    by_cases hf : rq (5 + q) = -1
    · rw [if_pos hf]
      refine itF_rb (R := SRx hl q ρ) (fun t ht S' B' hS' => ?_) h1
      by_cases hc : canT hl rq q t = true
      · rw [if_pos hc]
        obtain ⟨k1, k2⟩ := can_ok hO hP hH ho hq3 ht (by rw [← hfree]; exact hf) hc
        have := dfs_rf hO hP n (q + 1) (by omega) (rq := beginR hl rq q t) (w := w + nI (hl 6 t)) (mi := mi + nI (effS hl q t)) (S := (upd S'.1 q (nI t), S'.2)) (B := B') (ρ := set1 ρ q (t + 1)) k2 k1 (by rw [WS_set, if_neg (by omega), hw, nI_add, show t + 1 - 1 = t by omega]) (by rw [MS_set, if_neg (by omega), hm, nI_add, show t + 1 - 1 = t by omega]) ⟨fun j hj => by
          by_cases e : j = q
          · subst e; show upd S'.1 j (nI t) j = _; rw [upd_at, set1_at]; unfold dI; rw [if_neg (by omega), show t + 1 - 1 = t by omega]
          · show upd S'.1 q (nI t) j = _; rw [upd_off e, set1_ne e]; exact hS'.1 j (by omega), hS'.2⟩
        exact ⟨fun j hj => (this.1 j (by omega)).trans (dn (t + 1) j hj), this.2⟩
      · rw [if_neg hc, RF_bad n (q + 1) (set1 ρ q (t + 1)) B' (by omega) (fun z => hc (ok_can hO hP hH ht z).2)]
        exact hS'
    · rw [if_neg hf, itF_id (fun t ht a => RF_bad n (q + 1) (set1 ρ q (t + 1)) a (by omega) (fun z => hf (by rw [hfree]; exact (ok_can hO hP hH ht z).1)))]
      exact h1
theorem mt_rf (hO : HallOk hl) (hP : ∀ s, s < hl 0 2 → P s < 1000 ∧ r (1 + s) = nI (P s)) (a : Int32) (b : Nat → Int32) (ρ : Nat → Nat) : BR (hl 0 3) (mtR hl r) (RFm hl r P (hl 0 3) 0 ρ (-1, a, b)) := by
  have h0 : okP hl r P ρ 0 := ⟨fun i hi => absurd hi (by omega), fun s hs => Nat.zero_le _⟩
  have hH : HqD hl r P r ρ 0 := ⟨fun t ht => ⟨fun ⟨i, hi, _⟩ => absurd hi (by omega), fun _ => rfl⟩, fun s hs => by rw [(hP s hs).2]; rfl, fun _ _ _ => rfl⟩
  have h1 := (dfs_rf hO (fun s hs => (hP s hs).1) (hl 0 3) 0 (by omega) (rq := r) (w := nI 0) (mi := nI 0) (S := ((fun _ => 0), (-1, a, b))) (B := (-1, a, b)) (ρ := ρ) hH h0 rfl rfl ⟨fun j hj => absurd hj (by omega), ⟨rfl, rfl, fun _ _ => rfl⟩⟩).2
  have h2 := mt_any hl r (fun _ => 0) a b
  exact ⟨h2.1.symm.trans h1.1, h2.2.1.symm.trans h1.2.1, fun j hj => (h2.2.2 j hj).symm.trans (h1.2.2 j hj)⟩
end DFL
