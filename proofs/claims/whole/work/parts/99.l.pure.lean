/-! ===== a thing that nobody can mend ===== -/
section NTL
variable {hl : xHl} {rv : Option (List Nat)} {r : xRw} {t s m : Nat}
def NT (r : xRw) (t : Nat) : Prop := ¬ r (21 + t) = 2 ∧ ¬ r (21 + t) = 3
theorem cg_nt {mi v : Int32} {t : Nat} (h2 : ¬ v = 2) (h3 : ¬ v = 3) : ¬ cgV hl mi t v = 2 ∧ ¬ cgV hl mi t v = 3 := by
  unfold cgV
  by_cases e : (if v = 0 ∧ nI (hl 5 t) = mi then 1 else v) = 1
  · rw [if_pos e]
    by_cases e2 : nI (hl 0 1) ≤ mi - nI (hl 5 t) ∨ nI (hl 0 0) ≤ mi
    · rw [if_pos e2]; exact ⟨by decide, by decide⟩
    · rw [if_neg e2]; exact ⟨by decide, by decide⟩
  · rw [if_neg e]; exact ⟨h2, h3⟩
theorem NT.go (hO : HallOk hl) (hr : RowOk hl r) (ht : t < hl 0 4) (hs : ∀ q, q < hl 0 3 → hl 3 (q * 4 + hl 4 t) = 0) (h : NT r t) : NT (goMin hl rv r).1 t := by
  obtain ⟨o2, o3, o4, o5, -⟩ := id hO
  have h1 := comeGo_ok hO hr
  have n1 : NT (comeGo hl r (hl 0 4)) t := by
    have e : comeGo hl r (hl 0 4) (21 + t) = cgV hl (r 0) (21 + t - 21) (r (21 + t)) := if_pos (by omega)
    unfold NT
    rw [e]
    exact cg_nt h.1 h.2
  have n2 : ∀ n, n ≤ hl 0 3 → NT (takeF hl rv (comeGo hl r (hl 0 4)) n) t := by
    intro n
    induction n with
    | zero => exact fun _ => n1
    | succ n ih =>
      intro hn
      have i1 := ih (by omega)
      show NT (takeS hl rv (takeF hl rv (comeGo hl r (hl 0 4)) n) n) t
      unfold takeS
      by_cases e : takeF hl rv (comeGo hl r (hl 0 4)) n (5 + n) = -1 ∧ takeF hl rv (comeGo hl r (hl 0 4)) n (13 + n) = 0
      · rw [if_pos e]
        rcases hc : choice hl rv (takeF hl rv (comeGo hl r (hl 0 4)) n) n with _ | t'
        · exact i1
        · obtain ⟨c1, c2⟩ := choice_some hc
          have hne : t' ≠ t := fun z => by
            subst z
            have c3 := (of_decide_eq_true c2).2.1
            have := hs n (by omega)
            omega
          have hs4 := (o5 t' c1).1
          show NT (beginR hl (takeF hl rv (comeGo hl r (hl 0 4)) n) n t') t
          unfold NT
          rw [show beginR hl (takeF hl rv (comeGo hl r (hl 0 4)) n) n t' (21 + t) = takeF hl rv (comeGo hl r (hl 0 4)) n (21 + t) from begin_at (by omega) (by omega) (by omega) (by omega)]
          exact i1
      · rw [if_neg e]; exact i1
  have h2 := takeF_ok (rv := rv) hO h1 (hl 0 3) (Nat.le_refl _)
  have n3 : ∀ n, n ≤ hl 0 3 → NT (workF hl (takeF hl rv (comeGo hl r (hl 0 4)) (hl 0 3)) n).1 t := by
    intro n
    induction n with
    | zero => exact fun _ => n2 _ (Nat.le_refl _)
    | succ n ih =>
      intro hn
      have i1 := ih (by omega)
      have hw := workF_ok hO h2 n (by omega)
      show NT (workS hl (workF hl (takeF hl rv (comeGo hl r (hl 0 4)) (hl 0 3)) n).1 n) t
      generalize (workF hl (takeF hl rv (comeGo hl r (hl 0 4)) (hl 0 3)) n).1 = r3 at i1 hw ⊢
      unfold NT workS
      by_cases e : r3 (5 + n) = -1
      · rw [if_pos e]
        split
        · rw [upd_off (by omega)]; exact i1
        · exact i1
      · rw [if_neg e]
        obtain ⟨t', ht', w1, w2, -⟩ := (hw.2.1 n (by omega)).resolve_left e
        have hne : t' ≠ t := fun z => by
          subst z
          exact i1.1 w2
        have htn : thN (r3 (5 + n)) = t' := by rw [w1]; exact thN_nI (by omega)
        split
        · rw [htn, upd_off (by omega), upd_off (by omega), upd_off (by omega), upd_off (by omega)]; exact i1
        · rw [upd_off (by omega)]; exact i1
  unfold NT
  show ¬ upd (cofF (workF hl (takeF hl rv (comeGo hl r (hl 0 4)) (hl 0 3)) (hl 0 3)).1 (hl 0 3)) 0 _ (21 + t) = 2 ∧ ¬ upd (cofF (workF hl (takeF hl rv (comeGo hl r (hl 0 4)) (hl 0 3)) (hl 0 3)).1 (hl 0 3)) 0 _ (21 + t) = 3
  rw [upd_off (by omega), cofF_off (fun q hq => by omega)]
  exact n3 _ (Nat.le_refl _)
theorem nt_till (hO : HallOk hl) (ht : t < hl 0 4) (hs : ∀ q, q < hl 0 3 → hl 3 (q * 4 + hl 4 t) = 0) : ∀ (n : Nat) (r : xRw), RowOk hl r → NT r t → NT (till hl rv t n r) t
  | 0, _, _, h => h
  | n + 1, r, hr, h => by
    show NT (if r (21 + t) < 3 then till hl rv t n (goMin hl rv r).1 else r) t
    by_cases e : r (21 + t) < 3
    · rw [if_pos e]; exact nt_till hO ht hs n _ (goMin_ok hO hr) (h.go hO hr ht hs)
    · rw [if_neg e]; exact h
theorem late_no (hO : HallOk hl) (hr : RowOk hl r) (hs : s < hl 0 2) (h7 : hl 0 4 < 7) (h0 : r (21 + hl 0 4) = 0) (hn : ∀ q, q < hl 0 3 → hl 3 (q * 4 + s) = 0) : ∀ n, m + n ≤ 401 → lateF hl rv r s m n = -2
  | 0, _ => rfl
  | n + 1, hm => by
    have hO2 := late_hall (c := m + n) hO hs (by omega) h7
    have hr2 := late_row (s := s) (c := m + n) hr h0
    have g4 : lateH hl s (m + n) 0 4 = hl 0 4 + 1 := by unfold lateH; rw [s2_at]
    have g3 : lateH hl s (m + n) 0 3 = hl 0 3 := by unfold lateH; rw [s2_ne (by omega), s2_ne (by omega), s2_ne (by omega), s2_ne (by omega), s2_ne (by omega)]
    have gs : lateH hl s (m + n) 4 (hl 0 4) = s := by unfold lateH; rw [s2_ne (by omega), s2_ne (by omega), s2_ne (by omega), s2_ne (by omega), s2_at]
    have gk : ∀ j, lateH hl s (m + n) 3 j = hl 3 j := fun j => by unfold lateH; rw [s2_ne (by omega), s2_ne (by omega), s2_ne (by omega), s2_ne (by omega), s2_ne (by omega)]
    have k := nt_till (rv := rv) (t := hl 0 4) hO2 (by omega) (fun q hq => by rw [g3] at hq; rw [gs, gk]; exact hn q hq) 400 r hr2 ⟨by rw [h0]; decide, by rw [h0]; decide⟩
    show (if till (lateH hl s (m + n)) rv (hl 0 4) 400 r (21 + hl 0 4) = 3 then nI (m + n) else lateF hl rv r s m n) = -2
    rw [if_neg k.2]
    exact late_no hO hr hs h7 h0 hn n (by omega)
end NTL
/-! ===== saturdays on both sides ===== -/
section SAL
variable {hk hl : xHl} {rk r : xRw} {rv : Option (List Nat)} {g x0 : Nat}
theorem sat_VG {a : Nat} (hv : VG hk hl) : VG (satF a g hk (hk 0 4)).2 (satF a g hl (hk 0 4)).2 := by
  obtain ⟨-, h2⟩ := sat_vg (a := a) (g := g) hv (hk 0 4) (Nat.le_refl _)
  refine ⟨fun j hj => h2 0 j (by omega) (hv.1 j hj), fun s hs => ?_, fun j hj => ?_, fun t ht => ?_⟩
  · rw [satF_k a g hk (by omega)] at hs
    exact ⟨h2 1 s (by omega) (hv.2.1 s hs).1, h2 2 s (by omega) (hv.2.1 s hs).2⟩
  · rw [satF_k a g hk (by omega)] at hj
    exact h2 3 j (by omega) (hv.2.2.1 j hj)
  · rw [satF_k a g hk (by omega)] at ht
    obtain ⟨a1, a2, a3, a4⟩ := hv.2.2.2 t ht
    exact ⟨h2 4 t (by omega) a1, h2 5 t (by omega) a2, h2 6 t (by omega) a3, h2 7 t (by omega) a4⟩
theorem rv_cnt {hk' : xHl} (h : RV hk rk r) (h2 : hk' 0 2 = hk 0 2) (h3 : hk' 0 3 = hk 0 3) (h4 : hk' 0 4 = hk 0 4) : RV hk' rk r := fun j hj => by
  unfold vsR at hj
  rw [h2, h3, h4] at hj
  exact h j hj
theorem sa_cg (hO : HallOk hk) (hv : VG hk hl) (hc : ∀ t, t < hk 0 4 → hk 5 t ≤ 300) (hg : 0 < g) (hg2 : g ≤ 61) : ∀ k, saF hl rv g x0 k = saF hk rv g x0 k
  | 0 => rfl
  | k + 1 => by
    have e4 : hl 0 4 = hk 0 4 := hv.1 4 (by omega)
    have i1 := sa_cg hO hv hc hg hg2 k
    have hv2 : VG (satF (saF hk rv g x0 k).1 g hk (hk 0 4)).2 (satF (saF hk rv g x0 k).1 g hl (hk 0 4)).2 := sat_VG hv
    have hO2 : HallOk (satF (saF hk rv g x0 k).1 g hk (hk 0 4)).2 := sat_hall hO hc hg hg2 _
    have hr2 : RV (satF (saF hk rv g x0 k).1 g hk (hk 0 4)).2 (clearR hk) (clearR hl) := rv_cnt (clear_cg hO hv) (satF_k _ _ _ (by omega) _ _) (satF_k _ _ _ (by omega) _ _) (satF_k _ _ _ (by omega) _ _)
    have hr3 := goN_cg (rv := rv) hO2 hv2 hr2 400
    have hx := (sat_vg (a := (saF hk rv g x0 k).1) (g := g) hv (hk 0 4) (Nat.le_refl _)).1
    unfold saF
    rw [i1, e4, hx, saved_cg hv2 hr3]
    refine congrArg (fun z => (_, _, (saF hk rv g x0 k).2.2 + nI z)) (cnt_cg (fun t ht => ?_))
    rw [hr3.hw (by rw [satF_k _ _ _ (by omega)]; exact ht)]
end SAL
