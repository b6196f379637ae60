/-! ===== what an act keeps of a row ===== -/
section RIL
variable {hl : xHl} {rv : Option (List Nat)} {r : xRw} {q t s : Nat}
theorem begin_at {j : Nat} (h1 : j ≠ 1 + hl 4 t) (h2 : j ≠ 21 + t) (h3 : j ≠ 5 + q) (h4 : j ≠ 9 + q) : beginR hl r q t j = r j := by
  unfold beginR
  rw [upd_off h4, upd_off h3, upd_off h2, upd_off h1]
theorem takeS_at (hO : HallOk hl) (hq : q < hl 0 3) {j : Nat} (h : ¬ vsR hl j ∨ (13 ≤ j ∧ j < 17)) : takeS hl rv r q j = r j := by
  obtain ⟨o2, o3, o4, o5, -⟩ := hO
  unfold takeS
  by_cases e : r (5 + q) = -1 ∧ r (13 + q) = 0
  · rw [if_pos e]
    rcases hc : choice hl rv r q with _ | t
    · rfl
    · have ht := (choice_some hc).1
      have hs := (o5 t ht).1
      unfold vsR at h
      exact begin_at (by omega) (by omega) (by omega) (by omega)
  · rw [if_neg e]
theorem takeF_at (hO : HallOk hl) {j : Nat} (h : ¬ vsR hl j ∨ (13 ≤ j ∧ j < 17)) : ∀ n, n ≤ hl 0 3 → takeF hl rv r n j = r j
  | 0, _ => rfl
  | n + 1, hn => (takeS_at hO (by omega) h).trans (takeF_at hO h n (by omega))
theorem come_at {j n : Nat} (h : ¬ (21 ≤ j ∧ j < 21 + n)) : comeGo hl r n j = r j := if_neg h
theorem workS_at (hO : HallOk hl) (hr : RowOk hl r) (hq : q < hl 0 3) {j : Nat} (h : ¬ vsR hl j ∨ (13 ≤ j ∧ j < 17) ∨ (1 ≤ j ∧ j < 5)) : workS hl r q j = r j := by
  obtain ⟨o2, o3, o4, o5, -⟩ := hO
  unfold workS
  unfold vsR at h
  by_cases e : r (5 + q) = -1
  · rw [if_pos e]
    by_cases e2 : r 0 < nI (hl 0 0)
    · rw [if_pos e2, upd_off (by omega)]
    · rw [if_neg e2]
  · rw [if_neg e]
    obtain ⟨t, ht, hw, -⟩ := (hr.2.1 q hq).resolve_left e
    have htn : thN (r (5 + q)) = t := by rw [hw]; exact thN_nI (by omega)
    by_cases e2 : r (9 + q) - 1 = 0
    · rw [if_pos e2, htn, upd_off (by omega), upd_off (by omega), upd_off (by omega), upd_off (by omega)]
    · rw [if_neg e2, upd_off (by omega)]
theorem workF_at (hO : HallOk hl) (hr : RowOk hl r) {j : Nat} (h : ¬ vsR hl j ∨ (13 ≤ j ∧ j < 17) ∨ (1 ≤ j ∧ j < 5)) : ∀ n, n ≤ hl 0 3 → (workF hl r n).1 j = r j
  | 0, _ => rfl
  | n + 1, hn => (workS_at hO (workF_ok hO hr n (by omega)) (by omega) h).trans (workF_at hO hr h n (by omega))
theorem cofF_h {j : Nat} (h : ¬ vsR hl j ∨ j < 13) : ∀ n, n ≤ hl 0 3 → cofF r n j = r j
  | 0, _ => rfl
  | n + 1, hn => by
    show cofS (cofF r n) n j = r j
    have i1 := cofF_h h n (by omega)
    unfold cofS
    unfold vsR at h
    by_cases e : 0 < cofF r n (13 + n)
    · rw [if_pos e, upd_off (by omega)]; exact i1
    · rw [if_neg e]; exact i1
theorem go_hid (hO : HallOk hl) (hr : RowOk hl r) {j : Nat} (h : ¬ vsR hl j) : (goMin hl rv r).1 j = r j := by
  have h0 : j ≠ 0 := fun z => h (Or.inl z)
  have hc := comeGo_ok hO hr
  have ht := takeF_ok (rv := rv) hO hc (hl 0 3) (Nat.le_refl _)
  show upd (cofF (workF hl (takeF hl rv (comeGo hl r (hl 0 4)) (hl 0 3)) (hl 0 3)).1 (hl 0 3)) 0 _ j = r j
  rw [upd_off h0, cofF_h (Or.inl h) _ (Nat.le_refl _), workF_at hO ht (Or.inl h) _ (Nat.le_refl _), takeF_at hO (Or.inl h) _ (Nat.le_refl _), come_at (fun e => h (by unfold vsR; omega))]
def PLe (hl : xHl) (r : xRw) (B : Nat) : Prop := ∀ s, s < hl 0 2 → ∃ p, p ≤ B ∧ r (1 + s) = nI p
def CLe (r : xRw) : Prop := ∀ q, q < 4 → ∃ k, k ≤ 60 ∧ r (13 + q) = nI k
theorem begin_p {B : Nat} (hO : HallOk hl) (hB : B < 2 ^ 31) (hp : PLe hl r B) (hq : q < hl 0 3) (ht : t < hl 0 4) (hc : canT hl r q t = true) : PLe hl (beginR hl r q t) B := fun s hs => by
  obtain ⟨o2, o3, o4, o5, -⟩ := hO
  obtain ⟨a1, a2, -⟩ := o5 t ht
  obtain ⟨p, p1, p2⟩ := hp s hs
  by_cases e : s = hl 4 t
  · subst e
    obtain ⟨-, -, c3⟩ := of_decide_eq_true hc
    have hle : hl 7 t ≤ p := by
      rcases c3 with z | z
      · omega
      · rw [p2] at z
        have := (nI_ltI (a := 0) (by decide) (by omega)).mp z
        omega
    refine ⟨p - hl 7 t, by omega, ?_⟩
    unfold beginR
    rw [upd_off (by omega), upd_off (by omega), upd_off (by omega), upd_at, p2, pk_sub hle]
  · exact ⟨p, p1, by rw [begin_at (by omega) (by omega) (by omega) (by omega)]; exact p2⟩
theorem takeF_p {B : Nat} (hO : HallOk hl) (hB : B < 2 ^ 31) (hp : PLe hl r B) : ∀ n, n ≤ hl 0 3 → PLe hl (takeF hl rv r n) B
  | 0, _ => hp
  | n + 1, hn => by
    have i1 := takeF_p hO hB hp n (by omega)
    show PLe hl (takeS hl rv (takeF hl rv r n) n) B
    unfold takeS
    by_cases e : takeF hl rv r n (5 + n) = -1 ∧ takeF hl rv r n (13 + n) = 0
    · rw [if_pos e]
      rcases hc : choice hl rv (takeF hl rv r n) n with _ | t
      · exact i1
      · exact begin_p hO hB i1 (by omega) (choice_some hc).1 (choice_some hc).2
    · rw [if_neg e]; exact i1
theorem go_p {B : Nat} (hO : HallOk hl) (hB : B < 2 ^ 31) (hr : RowOk hl r) (hp : PLe hl r B) : PLe hl (goMin hl rv r).1 B := by
  have o2 := hO.1
  have hc := comeGo_ok hO hr
  have ht := takeF_ok (rv := rv) hO hc (hl 0 3) (Nat.le_refl _)
  have p1 : PLe hl (comeGo hl r (hl 0 4)) B := fun s hs => by
    obtain ⟨p, a1, a2⟩ := hp s hs
    exact ⟨p, a1, by rw [come_at (by omega)]; exact a2⟩
  have p2 := takeF_p (rv := rv) hO hB p1 (hl 0 3) (Nat.le_refl _)
  intro s hs
  obtain ⟨p, a1, a2⟩ := p2 s hs
  refine ⟨p, a1, ?_⟩
  show upd (cofF (workF hl (takeF hl rv (comeGo hl r (hl 0 4)) (hl 0 3)) (hl 0 3)).1 (hl 0 3)) 0 _ (1 + s) = nI p
  rw [upd_off (by omega), cofF_h (hl := hl) (Or.inr (by omega)) _ (Nat.le_refl _), workF_at hO ht (Or.inr (Or.inr (by omega))) _ (Nat.le_refl _)]
  exact a2
theorem cofF_c (h : CLe r) : ∀ n, n ≤ 4 → CLe (cofF r n)
  | 0, _ => h
  | n + 1, hn => by
    have i1 := cofF_c h n (by omega)
    show CLe (cofS (cofF r n) n)
    unfold cofS
    by_cases e : 0 < cofF r n (13 + n)
    · rw [if_pos e]
      intro q hq
      obtain ⟨k, k1, k2⟩ := i1 q hq
      by_cases e2 : q = n
      · subst e2
        rw [k2] at e
        have := (nI_ltI (a := 0) (by decide) (by omega)).mp e
        exact ⟨k - 1, by omega, by rw [upd_at, k2]; exact pk_sub (a := k) (b := 1) (by omega)⟩
      · exact ⟨k, k1, by rw [upd_off (by omega)]; exact k2⟩
    · rw [if_neg e]; exact i1
theorem go_k (hO : HallOk hl) (hr : RowOk hl r) (h : CLe r) : CLe (goMin hl rv r).1 := by
  have o3 := hO.2.1
  have hc := comeGo_ok hO hr
  have ht := takeF_ok (rv := rv) hO hc (hl 0 3) (Nat.le_refl _)
  have h1 : CLe (workF hl (takeF hl rv (comeGo hl r (hl 0 4)) (hl 0 3)) (hl 0 3)).1 := fun q hq => by
    obtain ⟨k, k1, k2⟩ := h q hq
    exact ⟨k, k1, by rw [workF_at hO ht (Or.inr (Or.inl (by omega))) _ (Nat.le_refl _), takeF_at hO (Or.inr (by omega)) _ (Nat.le_refl _), come_at (by omega)]; exact k2⟩
  intro q hq
  obtain ⟨k, k1, k2⟩ := cofF_c h1 (hl 0 3) o3 q hq
  refine ⟨k, k1, ?_⟩
  show upd (cofF (workF hl (takeF hl rv (comeGo hl r (hl 0 4)) (hl 0 3)) (hl 0 3)).1 (hl 0 3)) 0 _ (13 + q) = nI k
  rw [upd_off (by omega)]
  exact k2
/-- a row of a day: what it holds, seen and unseen -/
def Hid (hl : xHl) (r : xRw) : Prop := 1 ≤ hl 0 0 → (∀ q, hl 0 3 ≤ q → q < 4 → r (5 + q) = -1 ∧ r (9 + q) = 0 ∧ r (13 + q) = 0 ∧ r (17 + q) = 0) ∧ ∀ t, hl 0 4 ≤ t → t < 7 → r (21 + t) = 0 ∧ r (28 + t) = -1
def RowI (hl : xHl) (r : xRw) : Prop := RowX hl r ∧ Hid hl r ∧ ∃ m, RowC hl r m ∧ m ≤ 999
theorem Hid.tr {r' : xRw} (h : Hid hl r) (hO : HallOk hl) (he : ∀ j, ¬ vsR hl j → r' j = r j) : Hid hl r' := fun h1 => by
  obtain ⟨o2, o3, o4, -⟩ := hO
  obtain ⟨a, b⟩ := h h1
  refine ⟨fun q q1 q2 => ?_, fun t t1 t2 => ?_⟩
  · obtain ⟨a1, a2, a3, a4⟩ := a q q1 q2
    exact ⟨by rw [he _ (by unfold vsR; omega)]; exact a1, by rw [he _ (by unfold vsR; omega)]; exact a2, by rw [he _ (by unfold vsR; omega)]; exact a3, by rw [he _ (by unfold vsR; omega)]; exact a4⟩
  · obtain ⟨b1, b2⟩ := b t t1 t2
    exact ⟨by rw [he _ (by unfold vsR; omega)]; exact b1, by rw [he _ (by unfold vsR; omega)]; exact b2⟩
end RIL
