/-! ===== what is answered hangs on visible places only ===== -/
def VG (hk hl : xHl) : Prop := (∀ j, j < 5 → hl 0 j = hk 0 j) ∧ (∀ s, s < hk 0 2 → hl 1 s = hk 1 s ∧ hl 2 s = hk 2 s) ∧ (∀ j, j < hk 0 3 * 4 → hl 3 j = hk 3 j) ∧ ∀ t, t < hk 0 4 → hl 4 t = hk 4 t ∧ hl 5 t = hk 5 t ∧ hl 6 t = hk 6 t ∧ hl 7 t = hk 7 t
def vsR (hk : xHl) (j : Nat) : Prop := j = 0 ∨ (1 ≤ j ∧ j < 1 + hk 0 2) ∨ (5 ≤ j ∧ j < 5 + hk 0 3) ∨ (9 ≤ j ∧ j < 9 + hk 0 3) ∨ (13 ≤ j ∧ j < 13 + hk 0 3) ∨ (17 ≤ j ∧ j < 17 + hk 0 3) ∨ (21 ≤ j ∧ j < 21 + hk 0 4) ∨ (28 ≤ j ∧ j < 28 + hk 0 4)
def RV (hk : xHl) (rk r : xRw) : Prop := ∀ j, vsR hk j → r j = rk j
section CGL
variable {hk hl : xHl} {rk r : xRw} {rv : Option (List Nat)} {q t s : Nat}
theorem RV.z (h : RV hk rk r) : r 0 = rk 0 := h 0 (Or.inl rfl)
theorem RV.p (h : RV hk rk r) (hs : s < hk 0 2) : r (1 + s) = rk (1 + s) := h _ (by unfold vsR; omega)
theorem RV.m (h : RV hk rk r) (hq : q < hk 0 3) : r (5 + q) = rk (5 + q) := h _ (by unfold vsR; omega)
theorem RV.g (h : RV hk rk r) (hq : q < hk 0 3) : r (9 + q) = rk (9 + q) := h _ (by unfold vsR; omega)
theorem RV.c (h : RV hk rk r) (hq : q < hk 0 3) : r (13 + q) = rk (13 + q) := h _ (by unfold vsR; omega)
theorem RV.i (h : RV hk rk r) (hq : q < hk 0 3) : r (17 + q) = rk (17 + q) := h _ (by unfold vsR; omega)
theorem RV.hw (h : RV hk rk r) (ht : t < hk 0 4) : r (21 + t) = rk (21 + t) := h _ (by unfold vsR; omega)
theorem RV.w (h : RV hk rk r) (ht : t < hk 0 4) : r (28 + t) = rk (28 + t) := h _ (by unfold vsR; omega)
theorem RV.up {i : Nat} {x x' : Int32} (h : RV hk rk r) (hx : x = x') : RV hk (upd rk i x') (upd r i x) := fun j hj => by
  by_cases e : j = i
  · subst e; rw [upd_at, upd_at, hx]
  · rw [upd_off e, upd_off e]; exact h j hj
theorem effS_cg (hO : HallOk hk) (hv : VG hk hl) (hq : q < hk 0 3) (ht : t < hk 0 4) : effS hl q t = effS hk q t := by
  have o5 := hO.2.2.2.1 t ht
  have o2 := hO.1
  unfold effS
  rw [(hv.2.2.2 t ht).1, hv.2.2.1 _ (by omega), (hv.2.1 _ o5.1).1]
theorem canT_cg (hO : HallOk hk) (hv : VG hk hl) (h : RV hk rk r) (hq : q < hk 0 3) (ht : t < hk 0 4) : canT hl r q t = canT hk rk q t := by
  have o5 := hO.2.2.2.1 t ht
  have o2 := hO.1
  unfold canT
  rw [h.hw ht, (hv.2.2.2 t ht).1, hv.2.2.1 _ (by omega), (hv.2.2.2 t ht).2.2.2, h.p o5.1]
theorem cnt_cg {p p' : Nat → Bool} : ∀ {n : Nat}, (∀ i, i < n → p i = p' i) → cntF p n = cntF p' n
  | 0, _ => rfl
  | n + 1, h => by
    show cntF p n + (if p n then 1 else 0) = cntF p' n + (if p' n then 1 else 0)
    rw [cnt_cg (fun i hi => h i (by omega)), h n (by omega)]
theorem word_cg (hO : HallOk hk) (hv : VG hk hl) (h : RV hk rk r) (hq : q < hk 0 3) (ht : t < hk 0 4) : wordOf hl r q t = wordOf hk rk q t := by
  have o5 := hO.2.2.2.1 t ht
  have o2 := hO.1
  obtain ⟨e4, e5, e6, e7⟩ := hv.2.2.2 t ht
  have hc1 : cntF (fun t => decide (r (21 + t) = 1)) (hl 0 4) = cntF (fun t => decide (rk (21 + t) = 1)) (hk 0 4) := by
    rw [hv.1 4 (by decide)]; exact cnt_cg (fun i hi => by rw [h.hw hi])
  have hc2 : cntF (fun q => decide (r (5 + q) = -1)) (hl 0 3) = cntF (fun q => decide (rk (5 + q) = -1)) (hk 0 3) := by
    rw [hv.1 3 (by decide)]; exact cnt_cg (fun i hi => by rw [h.m hi])
  have hc3 : cntF (fun s => decide (0 < hl 3 (q * 4 + s))) (hl 0 2) = cntF (fun s => decide (0 < hk 3 (q * 4 + s))) (hk 0 2) := by
    rw [hv.1 2 (by decide)]; exact cnt_cg (fun i hi => by rw [hv.2.2.1 _ (by omega)])
  funext w
  unfold wordOf
  rw [hc1, hc2, hc3, e4, e5, e6, e7, hv.2.2.1 _ (show q * 4 + hk 4 t < hk 0 3 * 4 by omega), (hv.2.1 _ o5.1).1, h.p o5.1, h.z, hv.1 0 (by decide)]
theorem key_cg (hO : HallOk hk) (hv : VG hk hl) (h : RV hk rk r) (hq : q < hk 0 3) (ht : t < hk 0 4) : keyOf hl rv r q t = keyOf hk rv rk q t := by
  cases rv with
  | none =>
    show (nI 1000 - nI (hl 5 t)).toInt64 = (nI 1000 - nI (hk 5 t)).toInt64
    rw [(hv.2.2.2 t ht).2.1]
  | some sp =>
    show evC (wordOf hl r q t) sp [] = evC (wordOf hk rk q t) sp []
    rw [word_cg hO hv h hq ht]
theorem chF_cg {p p' : Nat → Bool} {ke ke' : Nat → Int64} : ∀ {n : Nat}, (∀ i, i < n → p i = p' i ∧ ke i = ke' i) → chF p ke n = chF p' ke' n
  | 0, _ => rfl
  | n + 1, h => by
    show (if p n = true ∧ (chF p ke n).2 < ke n then (some n, ke n) else chF p ke n) = (if p' n = true ∧ (chF p' ke' n).2 < ke' n then (some n, ke' n) else chF p' ke' n)
    rw [chF_cg (fun i hi => h i (by omega)), (h n (by omega)).1, (h n (by omega)).2]
theorem choice_cg (hO : HallOk hk) (hv : VG hk hl) (h : RV hk rk r) (hq : q < hk 0 3) : choice hl rv r q = choice hk rv rk q := by
  unfold choice
  rw [hv.1 4 (by decide), chF_cg (fun i hi => ⟨canT_cg hO hv h hq hi, key_cg hO hv h hq hi⟩)]
theorem begin_cg (hO : HallOk hk) (hv : VG hk hl) (h : RV hk rk r) (hq : q < hk 0 3) (ht : t < hk 0 4) : RV hk (beginR hk rk q t) (beginR hl r q t) := by
  have o5 := hO.2.2.2.1 t ht
  unfold beginR
  rw [effS_cg hO hv hq ht, (hv.2.2.2 t ht).1, (hv.2.2.2 t ht).2.2.2]
  exact (((h.up (by rw [h.p o5.1])).up rfl).up rfl).up rfl
theorem takeS_cg (hO : HallOk hk) (hv : VG hk hl) (h : RV hk rk r) (hq : q < hk 0 3) : RV hk (takeS hk rv rk q) (takeS hl rv r q) := by
  unfold takeS
  rw [h.m hq, h.c hq, choice_cg hO hv h hq]
  by_cases e : rk (5 + q) = -1 ∧ rk (13 + q) = 0
  · rw [if_pos e, if_pos e]
    rcases hc : choice hk rv rk q with _ | t
    · exact h
    · exact begin_cg hO hv h hq (choice_some hc).1
  · rw [if_neg e, if_neg e]; exact h
theorem takeF_cg (hO : HallOk hk) (hv : VG hk hl) (h : RV hk rk r) : ∀ n, n ≤ hk 0 3 → RV hk (takeF hk rv rk n) (takeF hl rv r n)
  | 0, _ => h
  | n + 1, hn => takeS_cg hO hv (takeF_cg hO hv h n (by omega)) (by omega)
theorem cgV_cg {mi v : Int32} (hv : VG hk hl) (ht : t < hk 0 4) : cgV hl mi t v = cgV hk mi t v := by
  unfold cgV
  rw [(hv.2.2.2 t ht).2.1, hv.1 1 (by decide), hv.1 0 (by decide)]
theorem come_cg (hv : VG hk hl) (h : RV hk rk r) : RV hk (comeGo hk rk (hk 0 4)) (comeGo hl r (hl 0 4)) := fun j hj => by
  unfold comeGo
  rw [hv.1 4 (by decide)]
  by_cases e : 21 ≤ j ∧ j < 21 + hk 0 4
  · rw [if_pos e, if_pos e, h.z, h j hj]
    exact cgV_cg hv (by omega)
  · rw [if_neg e, if_neg e]; exact h j hj
theorem workS_cg (hv : VG hk hl) (h : RV hk rk r) (hq : q < hk 0 3) : RV hk (workS hk rk q) (workS hl r q) := by
  unfold workS
  rw [h.m hq, h.z, hv.1 0 (by decide), h.g hq, h.i hq]
  by_cases e : rk (5 + q) = -1
  · rw [if_pos e, if_pos e]
    by_cases e2 : rk 0 < nI (hk 0 0)
    · rw [if_pos e2, if_pos e2]; exact h.up rfl
    · rw [if_neg e2, if_neg e2]; exact h
  · rw [if_neg e, if_neg e]
    by_cases e2 : rk (9 + q) - 1 = 0
    · rw [if_pos e2, if_pos e2]; exact (((h.up rfl).up rfl).up rfl).up rfl
    · rw [if_neg e2, if_neg e2]; exact h.up rfl
theorem workF_cg (hv : VG hk hl) (h : RV hk rk r) : ∀ n, n ≤ hk 0 3 → RV hk (workF hk rk n).1 (workF hl r n).1 ∧ (workF hl r n).2 = (workF hk rk n).2
  | 0, _ => ⟨h, rfl⟩
  | n + 1, hn => by
    obtain ⟨h1, h2⟩ := workF_cg hv h n (by omega)
    refine ⟨workS_cg hv h1 (by omega), ?_⟩
    show workM (workF hl r n).1 n (workF hl r n).2 = workM (workF hk rk n).1 n (workF hk rk n).2
    unfold workM
    rw [h1.m (by omega), h1.g (by omega), h2]
theorem cofF_cg (h : RV hk rk r) : ∀ n, n ≤ hk 0 3 → RV hk (cofF rk n) (cofF r n)
  | 0, _ => h
  | n + 1, hn => by
    have h1 := cofF_cg h n (by omega)
    show RV hk (cofS (cofF rk n) n) (cofS (cofF r n) n)
    unfold cofS
    rw [h1.c (by omega)]
    by_cases e : 0 < cofF rk n (13 + n)
    · rw [if_pos e, if_pos e]; exact h1.up rfl
    · rw [if_neg e, if_neg e]; exact h1
theorem goMin_cg (hO : HallOk hk) (hv : VG hk hl) (h : RV hk rk r) : RV hk (goMin hk rv rk).1 (goMin hl rv r).1 ∧ (goMin hl rv r).2 = (goMin hk rv rk).2 := by
  have h1 := come_cg hv h
  have h2 := takeF_cg (rv := rv) hO hv h1 (hk 0 3) (Nat.le_refl _)
  have h3 := workF_cg hv h2 (hk 0 3) (Nat.le_refl _)
  have h4 := cofF_cg h3.1 (hk 0 3) (Nat.le_refl _)
  unfold goMin
  rw [hv.1 3 (by decide)]
  exact ⟨h4.up (by rw [h4.z]), h3.2⟩
theorem goN_cg (hO : HallOk hk) (hv : VG hk hl) (h : RV hk rk r) : ∀ n, RV hk (goN hk rv rk n) (goN hl rv r n)
  | 0 => h
  | n + 1 => (goMin_cg hO hv (goN_cg hO hv h n)).1
theorem savF_cg (hv : VG hk hl) (h : RV hk rk r) : ∀ n, n ≤ hk 0 4 → savF hl r n = savF hk rk n
  | 0, _ => rfl
  | n + 1, hn => by
    show (if r (21 + n) = 3 then savF hl r n + nI (hl 6 n) else savF hl r n) = (if rk (21 + n) = 3 then savF hk rk n + nI (hk 6 n) else savF hk rk n)
    rw [savF_cg hv h n (by omega), h.hw (by omega), (hv.2.2.2 n (by omega)).2.2.1]
theorem saved_cg (hv : VG hk hl) (h : RV hk rk r) : savedS hl r = savedS hk rk := by
  unfold savedS
  rw [hv.1 4 (by decide)]
  exact savF_cg hv h _ (Nat.le_refl _)
theorem savG_cg (hO : HallOk hk) (hv : VG hk hl) (h : RV hk rk r) : savG hl rv r = savG hk rv rk := saved_cg hv (goN_cg hO hv h 400)
theorem till_cg (hO : HallOk hk) (hv : VG hk hl) (ht : t < hk 0 4) : ∀ (n : Nat) (rk r : xRw), RV hk rk r → RV hk (till hk rv t n rk) (till hl rv t n r)
  | 0, _, _, h => h
  | n + 1, rk, r, h => by
    show RV hk (if rk (21 + t) < 3 then till hk rv t n (goMin hk rv rk).1 else rk) (if r (21 + t) < 3 then till hl rv t n (goMin hl rv r).1 else r)
    rw [h.hw ht]
    by_cases e : rk (21 + t) < 3
    · rw [if_pos e, if_pos e]; exact till_cg hO hv ht n _ _ (goMin_cg hO hv h).1
    · rw [if_neg e, if_neg e]; exact h
theorem wtF_cg (hO : HallOk hk) (hv : VG hk hl) (ht : t < hk 0 4) : ∀ (n : Nat) (rk r : xRw), RV hk rk r → wtF hl rv t n r = wtF hk rv t n rk
  | 0, _, _, _ => rfl
  | n + 1, rk, r, h => by
    have h1 := (goMin_cg (rv := rv) hO hv h).1
    show (if nI 1 < (goMin hl rv r).1 (21 + t) then (goMin hl rv r).1 0 - nI 1 - nI (hl 5 t) else wtF hl rv t n (goMin hl rv r).1) = (if nI 1 < (goMin hk rv rk).1 (21 + t) then (goMin hk rv rk).1 0 - nI 1 - nI (hk 5 t) else wtF hk rv t n (goMin hk rv rk).1)
    rw [h1.hw ht, h1.z, (hv.2.2.2 t ht).2.1, wtF_cg hO hv ht n _ _ h1]
theorem doneS_cg (hO : HallOk hk) (hv : VG hk hl) (ht : t < hk 0 4) (h : RV hk rk r) : doneS hl rv r t = doneS hk rv rk t := by
  have h1 := till_cg (rv := rv) hO hv ht 400 rk r h
  unfold doneS
  rw [h1.hw ht, h1.w ht]
theorem idleR_cg (hO : HallOk hk) (hv : VG hk hl) : ∀ (n : Nat) (rk r : xRw), RV hk rk r → RV hk (idleR hk rv n rk) (idleR hl rv n r)
  | 0, _, _, h => h
  | n + 1, rk, r, h => by
    show RV hk (if rk 0 < nI (hk 0 0) then idleR hk rv n (goMin hk rv rk).1 else rk) (if r 0 < nI (hl 0 0) then idleR hl rv n (goMin hl rv r).1 else r)
    rw [h.z, hv.1 0 (by decide)]
    by_cases e : rk 0 < nI (hk 0 0)
    · rw [if_pos e, if_pos e]; exact idleR_cg hO hv n _ _ (goMin_cg hO hv h).1
    · rw [if_neg e, if_neg e]; exact h
theorem tryF_cg {c c' : Nat → Option (xHl × xRw)} {b : Int32 × Int32} : ∀ {n : Nat}, (∀ i, i < n → (c i = none ∧ c' i = none) ∨ ∃ p p', c i = some p ∧ c' i = some p' ∧ savG p.1 rv p.2 = savG p'.1 rv p'.2) → tryF rv c b n = tryF rv c' b n
  | 0, _ => rfl
  | n + 1, h => by
    have i1 : tryF rv c b n = tryF rv c' b n := tryF_cg (fun i hi => h i (show i < n + 1 by omega))
    rcases h n (by omega) with ⟨a1, a2⟩ | ⟨p, p', a1, a2, a3⟩
    · simp only [tryF, a1, a2]; exact i1
    · simp only [tryF, a1, a2]; rw [i1, a3]
theorem candT_cg (hO : HallOk hk) (hv : VG hk hl) (h : RV hk rk r) (hq : q < hk 0 3) : ∀ t, t < hk 0 4 → (candT hl r q t = none ∧ candT hk rk q t = none) ∨ ∃ p p', candT hl r q t = some p ∧ candT hk rk q t = some p' ∧ savG p.1 rv p.2 = savG p'.1 rv p'.2 := fun t ht => by
  unfold candT
  rw [canT_cg hO hv h hq ht]
  by_cases e : canT hk rk q t = true
  · rw [if_pos e, if_pos e]
    exact Or.inr ⟨_, _, rfl, rfl, savG_cg hO hv (begin_cg hO hv h hq ht)⟩
  · rw [if_neg e, if_neg e]; exact Or.inl ⟨rfl, rfl⟩
theorem part_cg (h : RV hk rk r) (hs : s < hk 0 2) : RV hk (partR rk s) (partR r s) := by
  unfold partR
  exact h.up (by rw [h.p hs])
theorem clear_cg (hO : HallOk hk) (hv : VG hk hl) : RV hk (clearR hk) (clearR hl) := fun j hj => by
  have o2 := hO.1
  have o3 := hO.2.1
  have o4 := hO.2.2.1
  unfold clearR rngF va_cpy nF
  by_cases e : 28 ≤ j ∧ j < 28 + 7
  · rw [if_pos e, if_pos e]
  · rw [if_neg e, if_neg e]
    by_cases e2 : 5 ≤ j ∧ j < 5 + 4
    · rw [if_pos e2, if_pos e2]
    · rw [if_neg e2, if_neg e2]
      by_cases e3 : 1 ≤ j ∧ j < 1 + 4
      · rw [if_pos e3, if_pos e3]
        unfold vsR at hj
        rw [(hv.2.1 (0 + (j - 1)) (by omega)).2]
      · rw [if_neg e3, if_neg e3]
end CGL
