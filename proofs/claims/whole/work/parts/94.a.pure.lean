/-! ===== the reference: what is asked leaves ===== -/
def LX (hl hl' : xHl) (t : Nat) : Prop := (∀ i j, ¬ ((i = 4 ∨ i = 6 ∨ i = 7) ∧ j = t) → hl' i j = hl i j) ∧ ∀ i j, hl' i j < 1000000
def AS (A A' : Nat → Nat → Int32) : Prop := (∀ k, ¬ (39 ≤ k ∧ k ≤ 44) → A' k = A k) ∧ ∀ j, j < 3600 → A' 44 j = A 44 j
def FS (F F' : Nat → Int32) : Prop := F' 27 = F 27 ∧ F' 31 = F 31 ∧ F' 36 = F 36 ∧ F' 49 = F 49
theorem LX.rf {hl : xHl} {t : Nat} (h : ∀ i j, hl i j < 1000000) : LX hl hl t := ⟨fun _ _ _ => rfl, h⟩
theorem AS.rf {A : Nat → Nat → Int32} : AS A A := ⟨fun _ _ => rfl, fun _ _ => rfl⟩
theorem FS.rf {F : Nat → Int32} : FS F F := ⟨rfl, rfl, rfl, rfl⟩
theorem AS.tr {A B C : Nat → Nat → Int32} (h1 : AS A B) (h2 : AS B C) : AS A C := ⟨fun k hk => (h2.1 k hk).trans (h1.1 k hk), fun j hj => (h2.2 j hj).trans (h1.2 j hj)⟩
theorem FS.tr {A B C : Nat → Int32} (h1 : FS A B) (h2 : FS B C) : FS A C := ⟨h2.1.trans h1.1, h2.2.1.trans h1.2.1, h2.2.2.1.trans h1.2.2.1, h2.2.2.2.trans h1.2.2.2⟩
theorem AS.kp {A : Nat → Nat → Int32} {hl : xHl} {r : xRw} {sc : Nat × Nat × Int32} : AS A (setA A 44 (svI (ovr A hl r sc) 3600 9)) := by
  refine ⟨fun k hk => setA_ne (by omega), fun j hj => ?_⟩
  rw [setA_at, svI_out 9 (Or.inl hj)]
  rfl
theorem AS.st {A A' : Nat → Nat → Int32} {k : Nat} {f : Nat → Int32} (h : AS A A') (hk : 39 ≤ k ∧ k ≤ 43) : AS A (setA A' k f) := by
  refine ⟨fun i hi => ?_, fun j hj => ?_⟩
  · rw [setA_ne (by omega)]; exact h.1 i hi
  · rw [setA_ne (by omega)]; exact h.2 j hj
abbrev mdK (G0 : xHp) (h y : Nat) (v : Option Value) (hl : xHl) (r : xRw) (sc : Nat × Nat × Int32) (A : Nat → Nat → Int32) (F : Nat → Int32) : xPost := xEx (fun e : (xHl × (Nat → Nat → Int32) × (Nat → Int32)) × ((Nat → Int64) × (Nat → Int64)) × xHp => MW G0 e.2.2 y e.1.1 r sc e.1.2.1 e.1.2.2 e.2.1.1 e.2.1.2 ∧ LX hl e.1.1 (hl 0 4) ∧ AS A e.1.2.1 ∧ FS F e.1.2.2) (fun _ => v) (fun _ => h) (fun e => e.2.2)
/-! ===== how a thing is, over a minute ===== -/
theorem takeS_st {hl : xHl} {rv : Option (List Nat)} {r : xRw} {q t : Nat} (hO : HallOk hl) (hq : q < 4) (h1 : ¬ r (21 + t) = 1) : takeS hl rv r q (21 + t) = r (21 + t) := by
  rcases hc : choice hl rv r q with _ | t'
  · rw [takeS_n (Or.inl hc)]
  · by_cases e : r (5 + q) = -1 ∧ r (13 + q) = 0
    · rw [takeS_y hc e]
      obtain ⟨c1, c2⟩ := choice_some hc
      obtain ⟨c3, -, -⟩ := of_decide_eq_true c2
      have o5 := hO.2.2.2.1 t' c1
      have o2 := hO.1
      have hne : t ≠ t' := fun z => h1 (by rw [z]; exact c3)
      unfold beginR
      rw [upd_off (by omega), upd_off (by omega), upd_off (by omega), upd_off (by omega)]
    · rw [takeS_n (Or.inr e)]
theorem takeF_st {hl : xHl} {rv : Option (List Nat)} {r : xRw} {t : Nat} (hO : HallOk hl) (h1 : ¬ r (21 + t) = 1) : ∀ n, n ≤ 4 → takeF hl rv r n (21 + t) = r (21 + t)
  | 0, _ => rfl
  | n + 1, hn => by
    have ih := takeF_st (rv := rv) hO h1 n (by omega)
    show takeS hl rv (takeF hl rv r n) n (21 + t) = _
    rw [takeS_st hO (by omega) (by rw [ih]; exact h1), ih]
theorem workF_st {hl : xHl} {r : xRw} {t : Nat} (ht : t < 7) (hO : HallOk hl) (hr : RowOk hl r) (h2 : ¬ r (21 + t) = 2) : ∀ n, n ≤ hl 0 3 → (workF hl r n).1 (21 + t) = r (21 + t)
  | 0, _ => rfl
  | n + 1, hn => by
    have o3 := hO.2.1
    have ih := workF_st ht hO hr h2 n (by omega)
    show workS hl (workF hl r n).1 n (21 + t) = _
    unfold workS
    rw [workF_5 (by omega)]
    by_cases e : r (5 + n) = -1
    · rw [if_pos e]
      by_cases e2 : (workF hl r n).1 0 < nI (hl 0 0)
      · rw [if_pos e2, upd_off (by omega)]; exact ih
      · rw [if_neg e2]; exact ih
    · rw [if_neg e]
      rcases hr.2.1 n (by omega) with z | ⟨t', z1, z2, z3, -⟩
      · exact absurd z e
      · have o4 := hO.2.2.1
        have hne : t ≠ t' := fun z => h2 (by rw [z]; exact z3)
        by_cases e3 : (workF hl r n).1 (9 + n) - 1 = 0
        · rw [if_pos e3, z2, thN_nI (by omega), upd_off (by omega), upd_off (by omega), upd_off (by omega), upd_off (by omega)]; exact ih
        · rw [if_neg e3, upd_off (by omega)]; exact ih
theorem go_st {hl : xHl} {rv : Option (List Nat)} {r : xRw} {t : Nat} (ht7 : t < 7) (hO : HallOk hl) (hr : RowOk hl r) (h1 : ¬ comeGo hl r (hl 0 4) (21 + t) = 1) (h2 : ¬ comeGo hl r (hl 0 4) (21 + t) = 2) : (goMin hl rv r).1 (21 + t) = comeGo hl r (hl 0 4) (21 + t) := by
  have o3 := hO.2.1
  have hc := comeGo_ok hO hr
  have ht := takeF_ok (rv := rv) hO hc (hl 0 3) (Nat.le_refl _)
  have e1 := takeF_st (rv := rv) hO h1 (hl 0 3) o3
  show upd (cofF (workF hl (takeF hl rv (comeGo hl r (hl 0 4)) (hl 0 3)) (hl 0 3)).1 (hl 0 3)) 0 _ (21 + t) = _
  rw [upd_off (by omega), cofF_off (fun q hq => by omega), workF_st ht7 hO ht (by rw [e1]; exact h2) _ (Nat.le_refl _), e1]
theorem how_3 {v : Int32} (h : howW v) (h3 : ¬ v < 3) : v = 3 ∨ v = 4 := by
  rcases h with e | e | e | e | e <;> subst e
  · exact absurd (by decide) h3
  · exact absurd (by decide) h3
  · exact absurd (by decide) h3
  · exact Or.inl rfl
  · exact Or.inr rfl
theorem go_3 {hl : xHl} {rv : Option (List Nat)} {r : xRw} {t : Nat} (hO : HallOk hl) (hr : RowOk hl r) (ht : t < hl 0 4) (h : ¬ r (21 + t) < 3) : (goMin hl rv r).1 (21 + t) = r (21 + t) := by
  have hv := how_3 (hr.1 t ht) h
  have e : comeGo hl r (hl 0 4) (21 + t) = r (21 + t) := by
    rw [comeGo_how hl r ht]
    rcases cgV_cases hl (r 0) t (r (21 + t)) with e | ⟨e, -⟩
    · exact e
    · rcases hv with z | z <;> rw [z] at e <;> rcases e with e | e <;> exact absurd e (by decide)
  rw [go_st (by have := hO.2.2.1; omega) hO hr (by rw [e]; rcases hv with z | z <;> rw [z] <;> decide) (by rw [e]; rcases hv with z | z <;> rw [z] <;> decide), e]
theorem goN_3 {hl : xHl} {rv : Option (List Nat)} {r : xRw} {t : Nat} (hO : HallOk hl) (hr : RowOk hl r) (ht : t < hl 0 4) (h : ¬ r (21 + t) < 3) : ∀ n, goN hl rv r n (21 + t) = r (21 + t)
  | 0 => rfl
  | n + 1 => by
    have ih := goN_3 (rv := rv) hO hr ht h n
    show (goMin hl rv (goN hl rv r n)).1 (21 + t) = _
    rw [go_3 hO (goN_ok hO hr n) ht (by rw [ih]; exact h), ih]
theorem till_go {hl : xHl} {rv : Option (List Nat)} {t : Nat} (hO : HallOk hl) (ht : t < hl 0 4) : ∀ (n : Nat) {r : xRw}, RowOk hl r → till hl rv t n r (21 + t) = goN hl rv r n (21 + t)
  | 0, r, _ => rfl
  | n + 1, r, hr => by
    simp only [till]
    by_cases e : r (21 + t) < 3
    · rw [if_pos e, till_go hO ht n (goMin_ok hO hr), show n + 1 = 1 + n by omega, goN_add]
      rfl
    · rw [if_neg e, goN_3 hO hr ht e]
/-- what is not away any more has come -/
def RowC (hl : xHl) (r : xRw) (m : Nat) : Prop := r 0 = nI m ∧ ∀ t, t < hl 0 4 → ¬ r (21 + t) = 0 → hl 5 t ≤ m
theorem go_c {hl : xHl} {rv : Option (List Nat)} {r : xRw} {m t : Nat} (hO : HallOk hl) (hr : RowOk hl r) (h : RowC hl r m) (hm : m < 100000) (ht : t < hl 0 4) (h0 : ¬ (goMin hl rv r).1 (21 + t) = 0) : hl 5 t ≤ m := by
  by_cases e : r (21 + t) = 0
  · by_cases e2 : nI (hl 5 t) = r 0
    · rw [h.1] at e2
      have := hO.2.2.2.1 t ht
      have := (nI_eq (by omega) (by omega)).mp e2
      omega
    · have ec : comeGo hl r (hl 0 4) (21 + t) = 0 := by
        rw [comeGo_how hl r ht]
        unfold cgV
        rw [if_neg (c := r (21 + t) = 0 ∧ nI (hl 5 t) = r 0) (fun z => e2 z.2), e, if_neg (by decide)]
      rw [go_st (by have := hO.2.2.1; omega) hO hr (by rw [ec]; decide) (by rw [ec]; decide), ec] at h0
      exact absurd rfl h0
  · exact h.2 t ht e
theorem RowC.go {hl : xHl} {rv : Option (List Nat)} {r : xRw} {m : Nat} (hO : HallOk hl) (hr : RowOk hl r) (h : RowC hl r m) (hm : m < 100000) : RowC hl (goMin hl rv r).1 (m + 1) := by
  refine ⟨by rw [go_0 hO.2.1, h.1, nI_1], fun t ht h0 => ?_⟩
  have := go_c (rv := rv) hO hr h hm ht h0
  omega
theorem wt_v {a b : Nat} (h : b ≤ a) (ha : a < 100000) : ¬ nI a - nI b = -2 := by
  rw [pk_sub h]
  intro e
  have e2 := congrArg Int32.toInt e
  rw [nI_toInt (by omega)] at e2
  have : ((-2 : Int32)).toInt = -2 := by decide
  omega
theorem wt_e {a b : Int32} : a + 1 - nI 1 - b = a - b := by rw [nl1, Int32.add_sub_cancel]
/-! ===== a guest; one thing more ===== -/
theorem guest_bk {hl : xHl} {t : Nat} (ht : hl 3 (hl 0 3 * 4 + t) = 0) : set2 (lbH hl (guestH hl t)) 3 (hl 0 3 * 4 + t) 0 = hl := by
  funext a b
  unfold set2
  by_cases e : a = 3 ∧ b = hl 0 3 * 4 + t
  · rw [if_pos e, e.1, e.2, ht]
  · rw [if_neg e]
    unfold lbH
    by_cases e2 : a = 0 ∨ a = 5
    · rw [if_pos e2]
    · rw [if_neg e2]
      by_cases e3 : a = 3
      · subst e3
        rw [guestH_3, if_neg (fun z => e ⟨rfl, z⟩)]
      · exact guestH_k hl t (fun z => e2 (Or.inl z)) e3 b
theorem late_x {hl hx : xHl} {s c : Nat} (h : LX hl hx (hl 0 4)) : set2 (set2 (set2 (set2 (set2 hx 0 4 (hl 0 4 + 1)) 4 (hl 0 4) s) 5 (hl 0 4) c) 6 (hl 0 4) 1) 7 (hl 0 4) 0 = lateH hl s c := by
  funext a b
  unfold lateH set2
  by_cases e : (a = 4 ∨ a = 6 ∨ a = 7) ∧ b = hl 0 4
  · obtain ⟨e1, e2⟩ := e
    rcases e1 with e1 | e1 | e1 <;> subst e1 <;> subst e2 <;> simp
  · have h1 := h.1 a b e
    rw [h1]
    by_cases e0 : a = 0
    · subst e0; simp
    · by_cases e5 : a = 5
      · subst e5; simp
      · have e4 : ¬ (a = 4 ∧ b = hl 0 4) := fun z => e ⟨Or.inl z.1, z.2⟩
        have e6 : ¬ (a = 6 ∧ b = hl 0 4) := fun z => e ⟨Or.inr (Or.inl z.1), z.2⟩
        have e7 : ¬ (a = 7 ∧ b = hl 0 4) := fun z => e ⟨Or.inr (Or.inr z.1), z.2⟩
        simp [e0, e5, e4, e6, e7]
theorem late_lx {hl : xHl} {s c : Nat} (hb : ∀ i j, hl i j < 1000000) (hs : s < 1000000) : LX hl (lbH hl (lateH hl s c)) (hl 0 4) := by
  refine ⟨fun i j hij => ?_, fun i j => ?_⟩
  · unfold lbH
    by_cases e : i = 0 ∨ i = 5
    · rw [if_pos e]
    · rw [if_neg e]
      by_cases e4 : i < 4
      · exact lateH_k hl s c (fun z => e (Or.inl z)) e4 j
      · have hn : ∀ k, ¬ (i = k ∧ j = hl 0 4) ∨ (k ≠ 4 ∧ k ≠ 6 ∧ k ≠ 7) := fun k => by
          by_cases z : i = k ∧ j = hl 0 4
          · right
            refine ⟨fun w => hij ⟨Or.inl (z.1.trans w), z.2⟩, fun w => hij ⟨Or.inr (Or.inl (z.1.trans w)), z.2⟩, fun w => hij ⟨Or.inr (Or.inr (z.1.trans w)), z.2⟩⟩
          · exact Or.inl z
        have n4 : ¬ (i = 4 ∧ j = hl 0 4) := (hn 4).elim id (fun w => absurd rfl w.1)
        have n6 : ¬ (i = 6 ∧ j = hl 0 4) := (hn 6).elim id (fun w => absurd rfl w.2.1)
        have n7 : ¬ (i = 7 ∧ j = hl 0 4) := (hn 7).elim id (fun w => absurd rfl w.2.2)
        have n0 : ¬ i = 0 := fun z => e (Or.inl z)
        have n5 : ¬ i = 5 := fun z => e (Or.inr z)
        unfold lateH set2
        simp [n4, n6, n7, n0, n5]
  · unfold lbH
    by_cases e : i = 0 ∨ i = 5
    · rw [if_pos e]; exact hb i j
    · rw [if_neg e]
      have n0 : ¬ i = 0 := fun z => e (Or.inl z)
      have n5 : ¬ i = 5 := fun z => e (Or.inr z)
      have := hb i j
      unfold lateH set2
      simp only [n0, n5, false_and, if_false]
      split
      · omega
      · split
        · omega
        · split <;> omega
