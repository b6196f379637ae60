theorem workS_off {hl : xHl} {r : xRw} {q j : Nat} (h1 : j ≠ 5 + q) (h2 : j ≠ 9 + q) (h3 : j ≠ 17 + q) (h4 : j < 21) : workS hl r q j = r j := by
  unfold workS
  split
  · split
    · rw [upd_off h3]
    · rfl
  · split
    · rw [upd_off h1, upd_off (by omega), upd_off (by omega), upd_off h2]
    · rw [upd_off h2]
theorem workF_off {hl : xHl} {r : xRw} {j : Nat} (hj : j < 21) : ∀ {n : Nat}, (∀ q, q < n → j ≠ 5 + q ∧ j ≠ 9 + q ∧ j ≠ 17 + q) → (workF hl r n).1 j = r j
  | 0, _ => rfl
  | n + 1, h => by
    show workS hl (workF hl r n).1 n j = r j
    rw [workS_off (h n (by omega)).1 (h n (by omega)).2.1 (h n (by omega)).2.2 hj]
    exact workF_off hj (fun q hq => h q (by omega))
theorem workF_5 {hl : xHl} {r : xRw} {q : Nat} (hq : q < 4) : (workF hl r q).1 (5 + q) = r (5 + q) := workF_off (by omega) (fun q' h => by omega)
theorem workF_9 {hl : xHl} {r : xRw} {q : Nat} (hq : q < 4) : (workF hl r q).1 (9 + q) = r (9 + q) := workF_off (by omega) (fun q' h => by omega)
theorem workF_0 {hl : xHl} {r : xRw} {q : Nat} : (workF hl r q).1 0 = r 0 := workF_off (by omega) (fun q' h => by omega)
/-- what a mender's minute does, by cases -/
theorem workS_a {hl : xHl} {r : xRw} {q : Nat} (h : r (5 + q) = -1) (h2 : r 0 < nI (hl 0 0)) : workS hl r q = upd r (17 + q) (r (17 + q) + nI 1) := by
  unfold workS; rw [if_pos h, if_pos h2]; rfl
theorem workS_a' {hl : xHl} {r : xRw} {q : Nat} (h : r (5 + q) = -1) (h2 : ¬ r 0 < nI (hl 0 0)) : workS hl r q = r := by
  unfold workS; rw [if_pos h, if_neg h2]
theorem workS_b {hl : xHl} {r : xRw} {q t g : Nat} (h : r (5 + q) = nI t) (ht : t < 1000) (hg : r (9 + q) = nI g) (h2 : 2 ≤ g) (h3 : g < 1000) : workS hl r q = upd r (9 + q) (nI (g - 1)) := by
  have e : r (9 + q) - 1 = nI (g - 1) := by rw [hg]; exact pk_sub (a := g) (b := 1) (by omega)
  unfold workS
  rw [if_neg (by rw [h]; exact nI_ne1 (by omega)), e, if_neg (nI_ne0 (by omega) (by omega))]
theorem workS_c {hl : xHl} {r : xRw} {q t : Nat} (h : r (5 + q) = nI t) (ht : t < 1000) (hg : r (9 + q) = nI 1) : workS hl r q = upd (upd (upd (upd r (9 + q) (nI 0)) (21 + t) (nI 3)) (28 + t) (r 0)) (5 + q) (-1) := by
  unfold workS
  rw [if_neg (by rw [h]; exact nI_ne1 (by omega)), hg, if_pos (by decide), h, thN_nI (by omega)]
  rfl
theorem workM_a {r : xRw} {q : Nat} {m : Int32} (h : r (5 + q) = -1) : workM r q m = m := by unfold workM; rw [if_pos h]
theorem workM_b {r : xRw} {q t g : Nat} {m : Int32} (h : r (5 + q) = nI t) (ht : t < 1000) (hg : r (9 + q) = nI g) (h2 : 2 ≤ g) (h3 : g < 1000) : workM r q m = m := by
  have e : r (9 + q) - 1 = nI (g - 1) := by rw [hg]; exact pk_sub (a := g) (b := 1) (by omega)
  unfold workM
  rw [if_neg (by rw [h]; exact nI_ne1 (by omega)), e, if_neg (nI_ne0 (by omega) (by omega))]
theorem workM_c {r : xRw} {q t : Nat} {m : Int32} (h : r (5 + q) = nI t) (ht : t < 1000) (hg : r (9 + q) = nI 1) : workM r q m = m ||| (nI 1 <<< (nI t &&& 31)) := by
  unfold workM
  rw [if_neg (by rw [h]; exact nI_ne1 (by omega)), hg, if_pos (by decide), h]
  rfl
theorem workS_ok {hl : xHl} {r : xRw} {q : Nat} (hO : HallOk hl) (h : RowOk hl r) (hq : q < hl 0 3) : RowOk hl (workS hl r q) := by
  obtain ⟨o2, o3, o4, -⟩ := id hO
  obtain ⟨h1, h2, h3, h4⟩ := id h
  have low : ∀ s, s < hl 0 2 → workS hl r q (1 + s) = r (1 + s) := fun s hs => workS_off (by omega) (by omega) (by omega) (by omega)
  rcases h2 q hq with e | ⟨t, ht, e1, e2, g, g1, g2, g3⟩
  · have hr : ∀ j, j ≠ 17 + q → workS hl r q j = r j := by
      intro j hj
      unfold workS
      rw [if_pos e]
      split
      · rw [upd_off hj]
      · rfl
    refine ⟨fun t ht => ?_, fun q' hq' => ?_, fun q1 q2 a1 a2 a3 a4 => ?_, fun s hs => by rw [low s hs]; exact h4 s hs⟩
    · rw [hr _ (by omega)]; exact h1 t ht
    · unfold mdW
      rw [hr (5 + q') (by omega), hr (9 + q') (by omega)]
      rcases h2 q' hq' with z | ⟨t, ht, z1, z2, z3⟩
      · exact Or.inl z
      · exact Or.inr ⟨t, ht, z1, by rw [hr _ (by omega)]; exact z2, z3⟩
    · rw [hr (5 + q1) (by omega)] at a4 ⊢
      rw [hr (5 + q2) (by omega)] at a4
      exact h3 q1 q2 a1 a2 a3 a4
  · rcases (show 2 ≤ g ∨ g = 1 by omega) with hg | hg
    · have hw := workS_b (hl := hl) e1 (by omega) g3 hg g2
      refine ⟨fun t ht => ?_, fun q' hq' => ?_, fun q1 q2 a1 a2 a3 a4 => ?_, fun s hs => by rw [low s hs]; exact h4 s hs⟩
      · rw [hw, upd_off (by omega)]; exact h1 t ht
      · unfold mdW
        rw [hw, upd_off (j := 5 + q') (by omega)]
        by_cases eq : q' = q
        · subst eq
          right
          exact ⟨t, ht, e1, by rw [upd_off (by omega)]; exact e2, g - 1, by omega, by omega, upd_at⟩
        · rw [upd_off (j := 9 + q') (by omega)]
          rcases h2 q' hq' with z | ⟨t', ht', z1, z2, z3⟩
          · exact Or.inl z
          · exact Or.inr ⟨t', ht', z1, by rw [upd_off (by omega)]; exact z2, z3⟩
      · rw [hw, upd_off (j := 5 + q1) (by omega)] at a4 ⊢
        rw [upd_off (j := 5 + q2) (by omega)] at a4
        exact h3 q1 q2 a1 a2 a3 a4
    · subst hg
      have hw := workS_c (hl := hl) e1 (by omega) g3
      have e5 : ∀ q', q' < 4 → workS hl r q (5 + q') = if q' = q then -1 else r (5 + q') := by
        intro q' hq'
        rw [hw]
        by_cases eq : q' = q
        · subst eq; rw [upd_at, if_pos rfl]
        · rw [upd_off (by omega), upd_off (by omega), upd_off (by omega), upd_off (by omega), if_neg eq]
      have e21 : ∀ t', t' < 7 → workS hl r q (21 + t') = if t' = t then nI 3 else r (21 + t') := by
        intro t' ht'
        rw [hw, upd_off (by omega), upd_off (by omega)]
        by_cases eq : t' = t
        · subst eq; rw [upd_at, if_pos rfl]
        · rw [upd_off (by omega), upd_off (by omega), if_neg eq]
      refine ⟨fun t' ht' => ?_, fun q' hq' => ?_, fun q1 q2 a1 a2 a3 a4 => ?_, fun s hs => by rw [low s hs]; exact h4 s hs⟩
      · rw [e21 t' (by omega)]
        split
        · simp [howW, nl3]
        · exact h1 t' ht'
      · unfold mdW
        rw [e5 q' (by omega)]
        by_cases eq : q' = q
        · rw [if_pos eq]; exact Or.inl rfl
        · rw [if_neg eq]
          rcases h2 q' hq' with z | ⟨t', ht', z1, z2, z3⟩
          · exact Or.inl z
          · refine Or.inr ⟨t', ht', z1, ?_, ?_⟩
            · rw [e21 t' (by omega), if_neg]
              · exact z2
              · intro et
                subst et
                have := h3 q' q hq' hq eq (by rw [z1, e1])
                rw [z1] at this
                exact nI_ne1 (by omega) this
            · rw [hw, upd_off (by omega), upd_off (by omega), upd_off (by omega), upd_off (by omega)]
              exact z3
      · rw [e5 q1 (by omega), e5 q2 (by omega)] at a4
        rw [e5 q1 (by omega)]
        by_cases b1 : q1 = q
        · rw [if_pos b1]
        · rw [if_neg b1] at a4 ⊢
          by_cases b2 : q2 = q
          · rw [if_pos b2] at a4; exact a4
          · rw [if_neg b2] at a4
            exact h3 q1 q2 a1 a2 a3 a4
theorem workF_ok {hl : xHl} {r : xRw} (hO : HallOk hl) (h : RowOk hl r) : ∀ n, n ≤ hl 0 3 → RowOk hl (workF hl r n).1
  | 0, _ => h
  | n + 1, hn => workS_ok hO (workF_ok hO h n (by omega)) (by omega)
theorem row_ok_of {hl : xHl} {r r' : xRw} (hO : HallOk hl) (h : RowOk hl r) (he : ∀ j, 1 ≤ j → (j < 13 ∨ (21 ≤ j ∧ j < 28)) → r' j = r j) : RowOk hl r' := by
  obtain ⟨o2, o3, o4, -⟩ := hO
  obtain ⟨h1, h2, h3, h4⟩ := h
  refine ⟨fun t ht => by rw [he _ (by omega) (by omega)]; exact h1 t ht, fun q hq => ?_, fun q1 q2 a1 a2 a3 a4 => ?_, fun s hs => by rw [he _ (by omega) (by omega)]; exact h4 s hs⟩
  · unfold mdW
    rw [he (5 + q) (by omega) (by omega), he (9 + q) (by omega) (by omega)]
    rcases h2 q hq with z | ⟨t, ht, z1, z2, z3⟩
    · exact Or.inl z
    · exact Or.inr ⟨t, ht, z1, by rw [he _ (by omega) (by omega)]; exact z2, z3⟩
  · rw [he (5 + q1) (by omega) (by omega)] at a4 ⊢
    rw [he (5 + q2) (by omega) (by omega)] at a4
    exact h3 q1 q2 a1 a2 a3 a4
theorem cofF_off {r : xRw} {j : Nat} : ∀ {n : Nat}, (∀ q, q < n → j ≠ 13 + q) → cofF r n j = r j
  | 0, _ => rfl
  | n + 1, h => by
    show cofS (cofF r n) n j = r j
    unfold cofS
    split
    · rw [upd_off (h n (by omega))]
      exact cofF_off (fun q hq => h q (by omega))
    · exact cofF_off (fun q hq => h q (by omega))
theorem cofF_ok {hl : xHl} {r : xRw} (hO : HallOk hl) (h : RowOk hl r) {n : Nat} (hn : n ≤ 4) : RowOk hl (cofF r n) := row_ok_of hO h (fun j h1 h2 => cofF_off (fun q hq => by omega))
theorem goMin_ok {hl : xHl} {rv : Option (List Nat)} {r : xRw} (hO : HallOk hl) (h : RowOk hl r) : RowOk hl (goMin hl rv r).1 := by
  have o3 := hO.2.1
  have h1 := workF_ok hO (takeF_ok (rv := rv) hO (comeGo_ok hO h) (hl 0 3) (Nat.le_refl _)) (hl 0 3) (Nat.le_refl _)
  have h2 := cofF_ok hO h1 (n := hl 0 3) o3
  exact row_ok_of hO h2 (fun j a b => upd_off (by omega))
theorem goN_ok {hl : xHl} {rv : Option (List Nat)} {r : xRw} (hO : HallOk hl) (h : RowOk hl r) : ∀ n, RowOk hl (goN hl rv r n)
  | 0 => h
  | n + 1 => goMin_ok hO (goN_ok hO h n)
