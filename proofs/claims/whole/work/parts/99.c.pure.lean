/-! ===== and so for what is asked ===== -/
section CGM
variable {hk hl : xHl} {rk r : xRw} {rv : Option (List Nat)} {q t s : Nat}
theorem s2_at {h : xHl} {i j v : Nat} : set2 h i j v i j = v := if_pos ⟨rfl, rfl⟩
theorem s2_ne {h : xHl} {i j v a b : Nat} (e : ¬ (a = i ∧ b = j)) : set2 h i j v a b = h a b := if_neg e
theorem s2_eq {h h' : xHl} {i j v a b : Nat} (e : h' a b = h a b) : set2 h' i j v a b = set2 h i j v a b := by
  unfold set2
  by_cases q : a = i ∧ b = j
  · rw [if_pos q, if_pos q]
  · rw [if_neg q, if_neg q]; exact e
theorem guest_vg (hv : VG hk hl) (h16 : ∀ j, j < 16 → hl 3 j = hk 3 j) (h3 : hk 0 3 < 4) : VG (guestH hk s) (guestH hl s) := by
  have e3 : hl 0 3 = hk 0 3 := hv.1 3 (by decide)
  have g3 : guestH hk s 0 3 = hk 0 3 + 1 := by unfold guestH; rw [s2_ne (by omega), s2_at]
  have g2 : guestH hk s 0 2 = hk 0 2 := by unfold guestH; rw [s2_ne (by omega), s2_ne (by omega)]
  have g4 : guestH hk s 0 4 = hk 0 4 := by unfold guestH; rw [s2_ne (by omega), s2_ne (by omega)]
  refine ⟨fun j hj => ?_, fun s' hs => ?_, fun j hj => ?_, fun t ht => ?_⟩
  · unfold guestH; rw [e3]; exact s2_eq (s2_eq (hv.1 j hj))
  · rw [g2] at hs
    unfold guestH
    rw [e3]
    exact ⟨s2_eq (s2_eq (hv.2.1 s' hs).1), s2_eq (s2_eq (hv.2.1 s' hs).2)⟩
  · rw [g3] at hj
    unfold guestH
    rw [e3]
    exact s2_eq (s2_eq (h16 j (by omega)))
  · rw [g4] at ht
    unfold guestH
    rw [e3]
    obtain ⟨a1, a2, a3, a4⟩ := hv.2.2.2 t ht
    exact ⟨s2_eq (s2_eq a1), s2_eq (s2_eq a2), s2_eq (s2_eq a3), s2_eq (s2_eq a4)⟩
theorem late_vg {c : Nat} (hv : VG hk hl) : VG (lateH hk s c) (lateH hl s c) := by
  have e4 : hl 0 4 = hk 0 4 := hv.1 4 (by decide)
  have g3 : lateH hk s c 0 3 = hk 0 3 := by unfold lateH; rw [s2_ne (by omega), s2_ne (by omega), s2_ne (by omega), s2_ne (by omega), s2_ne (by omega)]
  have g2 : lateH hk s c 0 2 = hk 0 2 := by unfold lateH; rw [s2_ne (by omega), s2_ne (by omega), s2_ne (by omega), s2_ne (by omega), s2_ne (by omega)]
  have g4 : lateH hk s c 0 4 = hk 0 4 + 1 := by unfold lateH; rw [s2_at]
  have gen : ∀ a b, hl a b = hk a b → lateH hl s c a b = lateH hk s c a b := fun a b e => by
    unfold lateH
    rw [e4]
    exact s2_eq (s2_eq (s2_eq (s2_eq (s2_eq e))))
  refine ⟨fun j hj => gen _ _ (hv.1 j hj), fun s' hs => ?_, fun j hj => ?_, fun t ht => ?_⟩
  · rw [g2] at hs
    exact ⟨gen _ _ (hv.2.1 s' hs).1, gen _ _ (hv.2.1 s' hs).2⟩
  · rw [g3] at hj; exact gen _ _ (hv.2.2.1 j hj)
  · rw [g4] at ht
    by_cases e : t = hk 0 4
    · subst e
      unfold lateH
      rw [e4]
      refine ⟨?_, ?_, ?_, ?_⟩
      · rw [s2_ne (by omega), s2_ne (by omega), s2_ne (by omega), s2_ne (by omega), s2_at, s2_ne (by omega), s2_ne (by omega), s2_ne (by omega), s2_ne (by omega), s2_at]
      · rw [s2_ne (by omega), s2_ne (by omega), s2_ne (by omega), s2_at, s2_ne (by omega), s2_ne (by omega), s2_ne (by omega), s2_at]
      · rw [s2_ne (by omega), s2_ne (by omega), s2_at, s2_ne (by omega), s2_ne (by omega), s2_at]
      · rw [s2_ne (by omega), s2_at, s2_ne (by omega), s2_at]
    · obtain ⟨a1, a2, a3, a4⟩ := hv.2.2.2 t (by omega)
      exact ⟨gen _ _ a1, gen _ _ a2, gen _ _ a3, gen _ _ a4⟩
theorem candG_cg (hv : VG hk hl) (h16 : ∀ j, j < 16 → hl 3 j = hk 3 j) (hG : ∀ s, s < hk 0 2 → HallOk (guestH hk s)) (hR : ∀ s, s < hk 0 2 → RV (guestH hk s) rk r) : ∀ s, s < hk 0 2 → (candG hl r s = none ∧ candG hk rk s = none) ∨ ∃ p p', candG hl r s = some p ∧ candG hk rk s = some p' ∧ savG p.1 rv p.2 = savG p'.1 rv p'.2 := fun s hs => by
  unfold candG
  rw [hv.1 3 (by decide)]
  by_cases e : hk 0 3 < 4
  · rw [if_pos e, if_pos e]
    exact Or.inr ⟨_, _, rfl, rfl, savG_cg (hG s hs) (guest_vg hv h16 e) (hR s hs)⟩
  · rw [if_neg e, if_neg e]; exact Or.inl ⟨rfl, rfl⟩
theorem late_cg {m : Nat} (hv : VG hk hl) : ∀ {n : Nat}, (∀ c, c < m + n → HallOk (lateH hk s c) ∧ RV (lateH hk s c) rk r) → lateF hl rv r s m n = lateF hk rv rk s m n
  | 0, _ => rfl
  | n + 1, h => by
    have e4 : hl 0 4 = hk 0 4 := hv.1 4 (by decide)
    obtain ⟨h1, h2⟩ := h (m + n) (by omega)
    have g4 : lateH hk s (m + n) 0 4 = hk 0 4 + 1 := by unfold lateH; rw [s2_at]
    have h3 := till_cg (rv := rv) (t := hk 0 4) h1 (late_vg (s := s) (c := m + n) hv) (by omega) 400 rk r h2
    show (if till (lateH hl s (m + n)) rv (hl 0 4) 400 r (21 + hl 0 4) = 3 then nI (m + n) else lateF hl rv r s m n) = (if till (lateH hk s (m + n)) rv (hk 0 4) 400 rk (21 + hk 0 4) = 3 then nI (m + n) else lateF hk rv rk s m n)
    rw [e4, h3.hw (by omega), late_cg hv (fun c hc => h c (by omega))]
theorem dfs_cg (hO : HallOk hk) (hv : VG hk hl) : ∀ (n q : Nat) (rk r : xRw) (w mi : Int32) (S : (Nat → Int32) × xB), q + n ≤ hk 0 3 → RV hk rk r → dfsM hl n r q w mi S = dfsM hk n rk q w mi S
  | 0, _, _, _, _, _, _, _, _ => rfl
  | n + 1, q, rk, r, w, mi, S, hq, h => by
    have i0 := dfs_cg hO hv n (q + 1) rk r w mi (upd S.1 q (-1), S.2) (by omega) h
    show (if r (5 + q) = -1 then itF (fun t S => if canT hl r q t = true then dfsM hl n (beginR hl r q t) (q + 1) (w + nI (hl 6 t)) (mi + nI (effS hl q t)) (upd S.1 q (nI t), S.2) else S) (hl 0 4) (dfsM hl n r (q + 1) w mi (upd S.1 q (-1), S.2)) else dfsM hl n r (q + 1) w mi (upd S.1 q (-1), S.2)) = (if rk (5 + q) = -1 then itF (fun t S => if canT hk rk q t = true then dfsM hk n (beginR hk rk q t) (q + 1) (w + nI (hk 6 t)) (mi + nI (effS hk q t)) (upd S.1 q (nI t), S.2) else S) (hk 0 4) (dfsM hk n rk (q + 1) w mi (upd S.1 q (-1), S.2)) else dfsM hk n rk (q + 1) w mi (upd S.1 q (-1), S.2))
    rw [h.m (by omega), i0, hv.1 4 (by decide)]
    by_cases e : rk (5 + q) = -1
    · rw [if_pos e, if_pos e]
      refine itF_cb (fun t ht S' => ?_)
      rw [canT_cg hO hv h (by omega) ht]
      by_cases e2 : canT hk rk q t = true
      · rw [if_pos e2, if_pos e2, effS_cg hO hv (by omega) ht, (hv.2.2.2 t ht).2.2.1]
        exact dfs_cg hO hv n (q + 1) _ _ _ _ _ (by omega) (begin_cg hO hv h (by omega) ht)
      · rw [if_neg e2, if_neg e2]
    · rw [if_neg e, if_neg e]
theorem mtR_cg (hO : HallOk hk) (hv : VG hk hl) (h : RV hk rk r) : mtR hl r = mtR hk rk := by
  unfold mtR
  rw [hv.1 3 (by decide), dfs_cg hO hv (hk 0 3) 0 rk r _ _ _ (by omega) h]
theorem fitB_cg {bk : Nat → Nat → Nat} {bn : Nat} (hO : HallOk hk) (hv : VG hk hl) (hb : BkOk hk bk bn) : fitB hl bk bn rv = fitB hk bk bn rv := by
  have e : (∀ k, k < bn → okB hl rv bk k) ↔ (∀ k, k < bn → okB hk rv bk k) := by
    refine ⟨fun z k hk2 => ?_, fun z k hk2 => ?_⟩
    · have := z k hk2
      unfold okB at this ⊢
      rw [(goN_cg hO hv (clear_cg hO hv) _).hw (hb.2 k hk2).2.1] at this
      exact this
    · have := z k hk2
      unfold okB at this ⊢
      rw [(goN_cg hO hv (clear_cg hO hv) _).hw (hb.2 k hk2).2.1]
      exact this
  unfold fitB
  exact @decide_eq_decide _ _ (Classical.propDecidable _) (Classical.propDecidable _) |>.mpr e
theorem note_cg {al : Nat → Nat} (h : RV hk rk r) : ∀ n, n ≤ hk 0 4 → noteF r al n = noteF rk al n
  | 0, _ => rfl
  | n + 1, hn => by
    funext j
    show (if j = n * 5 + thN (r (21 + n)) then noteF r al n j + 1 else noteF r al n j) = (if j = n * 5 + thN (rk (21 + n)) then noteF rk al n j + 1 else noteF rk al n j)
    rw [note_cg h n (by omega), h.hw (by omega)]
theorem alF_cg {rs : List (List Nat)} {p p' : Nat → Bool} {n : Nat} (hO : HallOk hk) (hv : VG hk hl) (hp : p = p') : ∀ j, alF hl rs p n j = alF hk rs p' n j
  | 0 => rfl
  | j + 1 => by
    subst hp
    show (if p j = true then noteF (goN hl (rvJ rs j) (clearR hl) (n + 1)) (alF hl rs p n j) (hl 0 4) else alF hl rs p n j) = (if p j = true then noteF (goN hk (rvJ rs j) (clearR hk) (n + 1)) (alF hk rs p n j) (hk 0 4) else alF hk rs p n j)
    rw [alF_cg hO hv rfl j, hv.1 4 (by decide), note_cg (goN_cg hO hv (clear_cg hO hv) (n + 1)) _ (Nat.le_refl _)]
theorem less_cg {a b : Nat} (hO : HallOk hk) (hv : VG hk hl) (h : RV hk rk r) (hw : ∀ q, q < hk 0 3 → rk (5 + q) = -1 ∨ thN (rk (5 + q)) < hk 0 4) (ha : a < hk 0 3) (hb : b < hk 0 3) : lessS hl r a b = lessS hk rk a b := by
  have o2 := hO.1
  unfold lessS
  rw [h.m ha, h.m hb, h.g ha, h.g hb]
  by_cases e : rk (5 + a) = -1 ∨ rk (5 + b) = -1
  · rw [if_pos e, if_pos e]
  · rw [if_neg e, if_neg e]
    have ta : thN (rk (5 + a)) < hk 0 4 := (hw a ha).resolve_left (fun z => e (Or.inl z))
    have tb : thN (rk (5 + b)) < hk 0 4 := (hw b hb).resolve_left (fun z => e (Or.inr z))
    have sa := (hO.2.2.2.1 _ ta).1
    have sb := (hO.2.2.2.1 _ tb).1
    rw [effS_cg hO hv ha tb, effS_cg hO hv hb ta, (hv.2.2.2 _ ta).1, (hv.2.2.2 _ tb).1, hv.2.2.1 _ (show a * 4 + hk 4 (thN (rk (5 + b))) < hk 0 3 * 4 by omega), hv.2.2.1 _ (show b * 4 + hk 4 (thN (rk (5 + a))) < hk 0 3 * 4 by omega)]
theorem swO_cg (hO : HallOk hk) (hv : VG hk hl) (h : RV hk rk r) (hw : ∀ q, q < hk 0 3 → rk (5 + q) = -1 ∨ thN (rk (5 + q)) < hk 0 4) : swO hl r (hl 0 3) = swO hk rk (hk 0 3) := by
  rw [hv.1 3 (by decide)]
  unfold swO
  refine itF_cb (fun f hf B => ?_)
  rw [hv.1 3 (by decide)]
  unfold swI
  refine itF_cb (fun j hj B => ?_)
  unfold swS
  rw [less_cg hO hv h hw hf (by omega)]
theorem sat_vg {a g : Nat} (hv : VG hk hl) : ∀ n, n ≤ hk 0 4 → (satF a g hl n).1 = (satF a g hk n).1 ∧ ∀ i j, (i ≠ 5 ∨ j < hk 0 4) → hl i j = hk i j → (satF a g hl n).2 i j = (satF a g hk n).2 i j
  | 0, _ => ⟨rfl, fun _ _ _ e => e⟩
  | n + 1, hn => by
    obtain ⟨h1, h2⟩ := sat_vg (a := a) (g := g) hv n (by omega)
    have e5 := h2 5 n (Or.inr (by omega)) (hv.2.2.2 n (by omega)).2.1
    refine ⟨?_, fun i j hij e => ?_⟩
    · show drwN (satF a g hl n).1 = drwN (satF a g hk n).1
      rw [h1]
    · show set2 (satF a g hl n).2 5 n ((satF a g hl n).2 5 n + drwN (satF a g hl n).1 / 65536 % g) i j = set2 (satF a g hk n).2 5 n ((satF a g hk n).2 5 n + drwN (satF a g hk n).1 / 65536 % g) i j
      rw [h1, e5]
      exact s2_eq (h2 i j hij e)
end CGM
