/-! ===== the reference: a minute goes by ===== -/
theorem c1_t {hl : xHl} {mi : Int32} {t : Nat} {v : Int32} (h1 : v = 0) (h2 : nI (hl 5 t) = mi) : c1V hl mi t v = nI 1 := if_pos ⟨h1, h2⟩
theorem c1_f {hl : xHl} {mi : Int32} {t : Nat} {v : Int32} (h : ¬ (v = 0 ∧ nI (hl 5 t) = mi)) : c1V hl mi t v = v := if_neg h
theorem c2_t {hl : xHl} {mi : Int32} {t : Nat} {v : Int32} (h1 : v = nI 1) (h2 : nI (hl 0 1) ≤ mi - nI (hl 5 t) ∨ nI (hl 0 0) ≤ mi) : c2V hl mi t v = nI 4 := if_pos ⟨h1, h2⟩
theorem c2_f {hl : xHl} {mi : Int32} {t : Nat} {v : Int32} (h : ¬ (v = nI 1 ∧ (nI (hl 0 1) ≤ mi - nI (hl 5 t) ∨ nI (hl 0 0) ≤ mi))) : c2V hl mi t v = v := if_neg h
theorem rg_s' {f : Nat → Int32 → Int32} {r : xRw} {t : Nat} {v : Int32} (h : f t (r (21 + t)) = v) : upd (rg f r t) (21 + t) v = rg f r (t + 1) := by rw [← h]; exact rg_s f r t
theorem takeS_0 {hl : xHl} {rv : Option (List Nat)} {r : xRw} {q : Nat} : takeS hl rv r q 0 = r 0 := by
  unfold takeS
  by_cases e : r (5 + q) = -1 ∧ r (13 + q) = 0
  · rw [if_pos e]
    rcases hc : choice hl rv r q with _ | t
    · rfl
    · show beginR hl r q t 0 = r 0
      unfold beginR
      rw [upd_off (by omega), upd_off (by omega), upd_off (by omega), upd_off (by omega)]
  · rw [if_neg e]
theorem takeF_0 {hl : xHl} {rv : Option (List Nat)} {r : xRw} : ∀ n, takeF hl rv r n 0 = r 0
  | 0 => rfl
  | n + 1 => takeS_0.trans (takeF_0 n)
theorem takeS_n {hl : xHl} {rv : Option (List Nat)} {r : xRw} {q : Nat} (h : choice hl rv r q = none ∨ ¬ (r (5 + q) = -1 ∧ r (13 + q) = 0)) : takeS hl rv r q = r := by
  unfold takeS
  by_cases e : r (5 + q) = -1 ∧ r (13 + q) = 0
  · rw [if_pos e, h.resolve_right (fun w => w e)]
  · rw [if_neg e]
theorem takeS_y {hl : xHl} {rv : Option (List Nat)} {r : xRw} {q t : Nat} (h : choice hl rv r q = some t) (e : r (5 + q) = -1 ∧ r (13 + q) = 0) : takeS hl rv r q = beginR hl r q t := by
  unfold takeS; rw [if_pos e, h]
theorem takeS_ok' {hl : xHl} {rv : Option (List Nat)} {r : xRw} {q : Nat} (hO : HallOk hl) (h : RowOk hl r) (hq : q < hl 0 3) : RowOk hl (takeS hl rv r q) := by
  rcases hc : choice hl rv r q with _ | t
  · rw [takeS_n (Or.inl hc)]; exact h
  · by_cases e : r (5 + q) = -1 ∧ r (13 + q) = 0
    · rw [takeS_y hc e]
      exact begin_ok hO h hq e.1 (choice_some hc).1 (choice_some hc).2
    · rw [takeS_n (Or.inr e)]; exact h
theorem takeF_ok' {hl : xHl} {rv : Option (List Nat)} {r : xRw} (hO : HallOk hl) (h : RowOk hl r) : ∀ n, n ≤ hl 0 3 → RowOk hl (takeF hl rv r n)
  | 0, _ => h
  | n + 1, hn => takeS_ok' hO (takeF_ok' hO h n (by omega)) (by omega)
theorem fs_5 {hl : xHl} {r : xRw} {q : Nat} (hq : q < 4) : (fsF hl r q).1 (5 + q) = r (5 + q) := by
  rw [(fs_eq q (by omega)).1, cofF_off (fun i hi => by omega), workF_5 hq]
theorem fs_9 {hl : xHl} {r : xRw} {q : Nat} (hq : q < 4) : (fsF hl r q).1 (9 + q) = r (9 + q) := by
  rw [(fs_eq q (by omega)).1, cofF_off (fun i hi => by omega), workF_9 hq]
theorem fs_0 {hl : xHl} {r : xRw} {q : Nat} (hq : q ≤ 4) : (fsF hl r q).1 0 = r 0 := by
  rw [(fs_eq q hq).1, cofF_off (fun i hi => by omega), workF_0]
theorem cofS_p {r : xRw} {q : Nat} (h : 0 < r (13 + q)) : cofS r q = upd r (13 + q) (r (13 + q) - nI 1) := if_pos h
theorem cofS_z {r : xRw} {q : Nat} (h : ¬ 0 < r (13 + q)) : cofS r q = upd r (13 + q) (r (13 + q) - nI 0) := by
  rw [sub_nl0, upd_self]; exact if_neg h
theorem workS_i0 {hl : xHl} {r : xRw} {q : Nat} (h : r (5 + q) = -1) (h2 : ¬ r 0 < nI (hl 0 0)) : workS hl r q = upd r (17 + q) (r (17 + q) + nI 0) := by
  rw [add_nl0, upd_self]; exact workS_a' h h2
theorem workS_w {hl : xHl} {r : xRw} {q : Nat} (h : ¬ r (5 + q) = -1) (h2 : ¬ r (9 + q) - nI 1 = 0) : workS hl r q = upd r (9 + q) (r (9 + q) - nI 1) := by
  rw [nl1] at h2 ⊢
  unfold workS; rw [if_neg h, if_neg h2]
theorem workS_f {hl : xHl} {r : xRw} {q t : Nat} (h : r (5 + q) = nI t) (ht : t < 1000) (h2 : r (9 + q) - nI 1 = 0) : workS hl r q = upd (upd (upd (upd r (9 + q) (r (9 + q) - nI 1)) (21 + t) (nI 3)) (28 + t) (r 0)) (5 + q) (-1) := by
  rw [nl1] at h2 ⊢
  unfold workS
  rw [if_neg (by rw [h]; exact nI_ne1 (by omega)), if_pos h2, h, thN_nI (by omega), h2]
theorem workM_w {r : xRw} {q : Nat} {m : Int32} (h : ¬ r (5 + q) = -1) (h2 : ¬ r (9 + q) - nI 1 = 0) : workM r q m = m := by
  rw [nl1] at h2
  unfold workM; rw [if_neg h, if_neg h2]
theorem workM_f {r : xRw} {q t : Nat} {m : Int32} (h : r (5 + q) = nI t) (ht : t < 1000) (h2 : r (9 + q) - nI 1 = 0) : workM r q m = m ||| (nI 1 <<< (nI t &&& 31)) := by
  rw [nl1] at h2 ⊢
  unfold workM; rw [if_neg (by rw [h]; exact nI_ne1 (by omega)), if_pos h2, h]
theorem blk_cong {r r' : xRw} {o n : Nat} (h : ∀ j, j < n → r' (o + j) = r (o + j)) : blk r' o n = blk r o n := by
  funext j; unfold blk
  by_cases e : j < n
  · rw [if_pos e, if_pos e, h j e]
  · rw [if_neg e, if_neg e]
/-- places beyond the row don't matter -/
theorem MW.row {G0 G : xHp} {y : Nat} {hl : xHl} {r r' : xRw} {sc : Nat × Nat × Int32} {A : Nat → Nat → Int32} {F : Nat → Int32} {wa sa : Nat → Int64} (h : MW G0 G y hl r sc A F wa sa) (he : ∀ j, j < 35 → r' j = r j) : MW G0 G y hl r' sc A F wa sa := by
  obtain ⟨h1, h2, h3, h4⟩ := h
  have e : ∀ i, ovr A hl r' sc i = ovr A hl r sc i := by
    intro i
    have e1 : scal hl r' sc = scal hl r sc := by unfold scal; rw [he 0 (by omega)]
    have z : ∀ o n, o + n ≤ 35 → blk r' o n = blk r o n := fun o n ho => blk_cong (fun j hj => he _ (by omega))
    unfold ovr
    exact ite_c (fun _ => e1) (ite_c (fun _ => rfl) (ite_c (fun _ => z 1 4 (by decide)) (ite_c (fun _ => rfl) (ite_c (fun _ => z 5 4 (by decide)) (ite_c (fun _ => z 9 4 (by decide)) (ite_c (fun _ => z 13 4 (by decide)) (ite_c (fun _ => z 17 4 (by decide)) (ite_c (fun _ => rfl) (ite_c (fun _ => rfl) (ite_c (fun _ => rfl) (ite_c (fun _ => rfl) (ite_c (fun _ => z 21 7 (by decide)) (ite_c (fun _ => z 28 7 (by decide)) (ite_c (fun _ => rfl) rfl))))))))))))))
  refine ⟨h1, fun k a b => ?_, h3, h4⟩
  rw [h2 k a b]
  unfold mcell; rw [e k]
