/-! ===== trials ===== -/
theorem savF_nI {hl : xHl} {r : xRw} (hO : HallOk hl) : ∀ n, n ≤ hl 0 4 → ∃ k, k ≤ 30 * n ∧ savF hl r n = nI k
  | 0, _ => ⟨0, by omega, rfl⟩
  | n + 1, hn => by
    obtain ⟨k, hk, e⟩ := savF_nI (r := r) hO n (by omega)
    obtain ⟨-, -, -, o5, -⟩ := hO
    simp only [savF]
    split
    · exact ⟨k + hl 6 n, by have := (o5 n (by omega)).2.2.2; omega, by rw [e, nI_add]⟩
    · exact ⟨k, by omega, e⟩
theorem saved_pos {hl : xHl} {r : xRw} (hO : HallOk hl) : (-1 : Int32) < savedS hl r := by
  obtain ⟨k, hk, e⟩ := savF_nI (r := r) hO (hl 0 4) (Nat.le_refl _)
  have o4 := hO.2.2.1
  unfold savedS
  rw [e]
  apply Int32.lt_iff_toInt_lt.mpr
  rw [nI_toInt (by omega)]
  have : ((-1 : Int32)).toInt = -1 := by decide
  omega
def savG (hl : xHl) (rv : Option (List Nat)) (r : xRw) : Int32 := savedS hl (goN hl rv r 400)
def tryF (rv : Option (List Nat)) (c : Nat → Option (xHl × xRw)) (b : Int32 × Int32) : Nat → Int32 × Int32
  | 0 => b
  | i + 1 => match c i with
    | none => tryF rv c b i
    | some p => if (tryF rv c b i).2 < savG p.1 rv p.2 then (nI i, savG p.1 rv p.2) else tryF rv c b i
theorem tryF_n {rv : Option (List Nat)} {c : Nat → Option (xHl × xRw)} {b : Int32 × Int32} {i : Nat} (h : c i = none) : tryF rv c b (i + 1) = tryF rv c b i := by simp only [tryF, h]
theorem tryF_s {rv : Option (List Nat)} {c : Nat → Option (xHl × xRw)} {b : Int32 × Int32} {i : Nat} {p : xHl × xRw} (h : c i = some p) : tryF rv c b (i + 1) = if (tryF rv c b i).2 < savG p.1 rv p.2 then (nI i, savG p.1 rv p.2) else tryF rv c b i := by simp only [tryF, h]
def candT (hl : xHl) (r : xRw) (q : Nat) : Nat → Option (xHl × xRw) := fun t => if canT hl r q t = true then some (hl, beginR hl r q t) else none
def partR (r : xRw) (s : Nat) : xRw := upd r (1 + s) (r (1 + s) + nI 1)
def guestH (hl : xHl) (s : Nat) : xHl := set2 (set2 hl 0 3 (hl 0 3 + 1)) 3 (hl 0 3 * 4 + s) 10
theorem part_ok {hl : xHl} {r : xRw} {s : Nat} (hO : HallOk hl) (h : RowOk hl r) (hs : s < hl 0 2) (hp : ∀ s, s < hl 0 2 → ∃ p, p ≤ 100 ∧ r (1 + s) = nI p) : RowOk hl (partR r s) := by
  obtain ⟨o2, o3, o4, -⟩ := id hO
  obtain ⟨h1, h2, h3, h4⟩ := h
  have off : ∀ j, j ≠ 1 + s → partR r s j = r j := fun j hj => upd_off hj
  refine ⟨fun t ht => by rw [off _ (by omega)]; exact h1 t ht, fun q hq => ?_, fun q1 q2 a1 a2 a3 a4 => ?_, fun s' hs' => ?_⟩
  · unfold mdW
    rw [off (5 + q) (by omega), off (9 + q) (by omega)]
    rcases h2 q hq with z | ⟨t, ht, z1, z2, z3⟩
    · exact Or.inl z
    · exact Or.inr ⟨t, ht, z1, by rw [off _ (by omega)]; exact z2, z3⟩
  · rw [off (5 + q1) (by omega)] at a4 ⊢
    rw [off (5 + q2) (by omega)] at a4
    exact h3 q1 q2 a1 a2 a3 a4
  · by_cases e : s' = s
    · subst e
      obtain ⟨p, hp1, hp2⟩ := hp s' hs'
      exact ⟨p + 1, by omega, by unfold partR; rw [upd_at, hp2]; exact nI_1 p⟩
    · rw [off _ (by omega)]; exact h4 s' hs'
theorem guestH_0 (hl : xHl) (s j : Nat) : guestH hl s 0 j = if j = 3 then hl 0 3 + 1 else hl 0 j := by
  unfold guestH set2
  simp
theorem guestH_3 (hl : xHl) (s j : Nat) : guestH hl s 3 j = if j = hl 0 3 * 4 + s then 10 else hl 3 j := by
  unfold guestH set2
  simp
theorem guestH_k (hl : xHl) (s : Nat) {k : Nat} (h0 : k ≠ 0) (h3 : k ≠ 3) (j : Nat) : guestH hl s k j = hl k j := by
  unfold guestH set2
  simp [h0, h3]
theorem guest_hall {hl : xHl} {s : Nat} (hO : HallOk hl) (hm : hl 0 3 < 4) (hgs : ∀ i, i < 4 → hl 3 (hl 0 3 * 4 + i) ≤ 60) : HallOk (guestH hl s) := by
  obtain ⟨o2, o3, o4, o5, o6, o7, o8, o9⟩ := hO
  refine ⟨?_, ?_, ?_, fun t ht => ?_, fun j hj => ?_, fun j hj => ?_, ?_, ?_⟩
  · rw [guestH_0]; simpa using o2
  · rw [guestH_0]; simp; omega
  · rw [guestH_0]; simpa using o4
  · rw [guestH_0] at ht
    simp at ht
    rw [guestH_k hl s (by decide) (by decide), guestH_0, guestH_k hl s (by decide) (by decide), guestH_k hl s (by decide) (by decide), guestH_k hl s (by decide) (by decide)]
    simpa using o5 t ht
  · rw [guestH_3]; split
    · omega
    · rw [guestH_0] at hj
      simp at hj
      by_cases e : j < hl 0 3 * 4
      · exact o6 j e
      · have := hgs (j - hl 0 3 * 4) (by omega)
        rw [show hl 0 3 * 4 + (j - hl 0 3 * 4) = j by omega] at this
        exact this
  · rw [guestH_k hl s (by decide) (by decide)]; rw [guestH_0] at hj; exact o7 j (by simpa using hj)
  · rw [guestH_0]; simpa using o8
  · rw [guestH_0]; simpa using o9
theorem guest_row {hl : xHl} {r : xRw} {s : Nat} (h : RowOk hl r) (hf : r (5 + hl 0 3) = -1) : RowOk (guestH hl s) r := by
  obtain ⟨h1, h2, h3, h4⟩ := h
  have e4 : guestH hl s 0 4 = hl 0 4 := by rw [guestH_0]; simp
  have e3 : guestH hl s 0 3 = hl 0 3 + 1 := by rw [guestH_0]; simp
  have e2 : guestH hl s 0 2 = hl 0 2 := by rw [guestH_0]; simp
  have h2' : ∀ q, q < hl 0 3 + 1 → mdW (guestH hl s) r q := by
    intro q hq
    unfold mdW
    rw [e4]
    by_cases e : q = hl 0 3
    · rw [e]; exact Or.inl hf
    · exact h2 q (by omega)
  refine ⟨fun t ht => h1 t (by rw [← e4]; exact ht), fun q hq => h2' q (by rw [← e3]; exact hq), fun q1 q2 a1 a2 a3 a4 => ?_, fun s' hs' => h4 s' (by rw [← e2]; exact hs')⟩
  rw [e3] at a1 a2
  by_cases b1 : q1 = hl 0 3
  · rw [b1]; exact hf
  · by_cases b2 : q2 = hl 0 3
    · rw [a4, b2]; exact hf
    · exact h3 q1 q2 (by omega) (by omega) a3 a4
/-- one more thing, behind all others -/
def lateH (hl : xHl) (s c : Nat) : xHl := set2 (set2 (set2 (set2 (set2 hl 4 (hl 0 4) s) 5 (hl 0 4) c) 6 (hl 0 4) 1) 7 (hl 0 4) 0) 0 4 (hl 0 4 + 1)
theorem lateH_0 (hl : xHl) (s c j : Nat) : lateH hl s c 0 j = if j = 4 then hl 0 4 + 1 else hl 0 j := by unfold lateH set2; simp
theorem lateH_4 (hl : xHl) (s c j : Nat) : lateH hl s c 4 j = if j = hl 0 4 then s else hl 4 j := by unfold lateH set2; simp
theorem lateH_5 (hl : xHl) (s c j : Nat) : lateH hl s c 5 j = if j = hl 0 4 then c else hl 5 j := by unfold lateH set2; simp
theorem lateH_6 (hl : xHl) (s c j : Nat) : lateH hl s c 6 j = if j = hl 0 4 then 1 else hl 6 j := by unfold lateH set2; simp
theorem lateH_7 (hl : xHl) (s c j : Nat) : lateH hl s c 7 j = if j = hl 0 4 then 0 else hl 7 j := by unfold lateH set2; simp
theorem lateH_k (hl : xHl) (s c : Nat) {k : Nat} (h0 : k ≠ 0) (h : k < 4) (j : Nat) : lateH hl s c k j = hl k j := by
  unfold lateH set2
  simp [h0, show k ≠ 4 by omega, show k ≠ 5 by omega, show k ≠ 6 by omega, show k ≠ 7 by omega]
theorem late_hall {hl : xHl} {s c : Nat} (hO : HallOk hl) (hs : s < hl 0 2) (hc : c ≤ 400) (ht : hl 0 4 < 7) : HallOk (lateH hl s c) := by
  obtain ⟨o2, o3, o4, o5, o6, o7, o8, o9⟩ := hO
  refine ⟨by rw [lateH_0]; simpa using o2, by rw [lateH_0]; simpa using o3, by rw [lateH_0]; simp; omega, fun t h => ?_, fun j hj => by rw [lateH_k hl s c (by decide) (by decide)]; rw [lateH_0] at hj; exact o6 j (by simpa using hj), fun j hj => by rw [lateH_k hl s c (by decide) (by decide)]; rw [lateH_0] at hj; exact o7 j (by simpa using hj), by rw [lateH_0]; simpa using o8, by rw [lateH_0]; simpa using o9⟩
  rw [lateH_0] at h
  simp at h
  rw [lateH_4, lateH_5, lateH_6, lateH_7, lateH_0]
  by_cases e : t = hl 0 4
  · simp [e]; omega
  · simp only [if_neg e]
    simpa using o5 t (by omega)
theorem late_row {hl : xHl} {r : xRw} {s c : Nat} (h : RowOk hl r) (hf : r (21 + hl 0 4) = 0) : RowOk (lateH hl s c) r := by
  obtain ⟨h1, h2, h3, h4⟩ := h
  have e4 : lateH hl s c 0 4 = hl 0 4 + 1 := by rw [lateH_0]; simp
  have e3 : lateH hl s c 0 3 = hl 0 3 := by rw [lateH_0]; simp
  have e2 : lateH hl s c 0 2 = hl 0 2 := by rw [lateH_0]; simp
  refine ⟨fun t ht => ?_, fun q hq => ?_, fun q1 q2 a1 a2 => h3 q1 q2 (by rw [← e3]; exact a1) (by rw [← e3]; exact a2), fun s' hs' => h4 s' (by rw [← e2]; exact hs')⟩
  · rw [e4] at ht
    by_cases e : t = hl 0 4
    · rw [e, hf]; exact Or.inl rfl
    · exact h1 t (by omega)
  · rw [e3] at hq
    rcases h2 q hq with z | ⟨t, ht, z⟩
    · exact Or.inl z
    · exact Or.inr ⟨t, by rw [e4]; omega, z⟩
def lateF (hl : xHl) (rv : Option (List Nat)) (r : xRw) (s m : Nat) : Nat → Int32
  | 0 => -2
  | k + 1 => if till (lateH hl s (m + k)) rv (hl 0 4) 400 r (21 + hl 0 4) = 3 then nI (m + k) else lateF hl rv r s m k
def idleR (hl : xHl) (rv : Option (List Nat)) : Nat → xRw → xRw
  | 0, r => r
  | n + 1, r => if r 0 < nI (hl 0 0) then idleR hl rv n (goMin hl rv r).1 else r
theorem clear_ok {hl : xHl} (hO : HallOk hl) (hp : ∀ s, s < hl 0 2 → hl 2 s < 200) : RowOk hl (clearR hl) := by
  obtain ⟨o2, o3, o4, -⟩ := hO
  have e21 : ∀ t, t < 7 → clearR hl (21 + t) = 0 := by
    intro t ht
    unfold clearR rngF va_cpy
    rw [if_neg (by omega), if_neg (by omega), if_neg (by omega)]; rfl
  have e5 : ∀ q, q < 4 → clearR hl (5 + q) = -1 := by
    intro q hq
    unfold clearR rngF va_cpy
    rw [if_neg (by omega), if_pos (by omega)]
  refine ⟨fun t ht => by rw [e21 t (by omega)]; exact Or.inl rfl, fun q hq => Or.inl (e5 q (by omega)), fun q1 q2 a1 a2 a3 a4 => e5 q1 (by omega), fun s hs => ⟨hl 2 s, hp s hs, ?_⟩⟩
  unfold clearR rngF va_cpy
  rw [if_neg (by omega), if_neg (by omega), if_pos (by omega)]
  show nI (hl 2 (0 + (1 + s - 1))) = nI (hl 2 s)
  congr 2
  omega
theorem saved_posG {hl : xHl} {rv : Option (List Nat)} {r : xRw} (hO : HallOk hl) : (-1 : Int32) < savG hl rv r := saved_pos hO
theorem tryF_const {rv : Option (List Nat)} {c : Nat → Option (xHl × xRw)} {b : Int32 × Int32} (h : ∀ i, c i = none) : ∀ n, tryF rv c b n = b
  | 0 => rfl
  | n + 1 => (tryF_n (h n)).trans (tryF_const h n)
def candG (hl : xHl) (r : xRw) : Nat → Option (xHl × xRw) := fun s => if hl 0 3 < 4 then some (guestH hl s, r) else none
theorem candG_n {hl : xHl} {r : xRw} {i : Nat} (h : 4 ≤ hl 0 3) : candG hl r i = none := if_neg (by omega)
theorem idle_ok {hl : xHl} {rv : Option (List Nat)} (hO : HallOk hl) : ∀ (n : Nat) {r : xRw}, RowOk hl r → RowOk hl (idleR hl rv n r)
  | 0, r, h => h
  | n + 1, r, h => by
    simp only [idleR]
    split
    · exact idle_ok hO n (goMin_ok hO h)
    · exact h
theorem Tr_hallq {K : xG} {h x : Nat} {G0 G : xHp} {hk hk' : xHl} {rk : xRw} {rt : Option Nat} {ch mo : Int32} {m : xM} {d : Nat} {As : List Value} (hT : TrW G0 G x hk rk rt ch mo) (hc : xCall K m d 0 0 As h G (hallQ G h (x + 38) hk')) : xCall K m d 0 0 As h G (trQ G0 h x none hk' rk rt ch mo) := by
  refine x_callpost (fun v h' G' hq => ?_) hc
  obtain ⟨G1, ⟨h1, h2⟩, e1, e2, e3⟩ := hq
  obtain ⟨t1, ⟨t21, t22, t23⟩, ⟨wd, sk, t3⟩, t4⟩ := hT
  exact ⟨G1, ⟨(h2 _ (by omega)).trans t1, ⟨(h2 _ (by omega)).trans t21, h1, (h2 _ (by omega)).trans t23⟩, ⟨wd, sk, t3.fr (fun a b c => h2 a (by omega))⟩, t4.tr (fun a ha => h2 a (by omega))⟩, e1, e2, e3⟩
theorem TrW.rule' {G0 G : xHp} {x : Nat} {hk : xHl} {rk : xRw} {rt rt' : Option Nat} {ch mo : Int32} (hT : TrW G0 G x hk rk rt ch mo) : TrW G0 (xup G (x + 37) (eO 2 [.ref (x + 37 + 1), .ref (x + 37 + 9), .ref (x + 16), va_rf rt'])) x hk rk rt' ch mo := by
  obtain ⟨t1, ⟨t21, t22, t23⟩, ⟨wd, sk, t3⟩, t4⟩ := hT
  exact ⟨xup_of (by omega) t1, ⟨xup_eq, t22.fr (fun a b c => xup_ne (by omega)), xup_of (by omega) t23⟩, ⟨wd, sk, t3.fr (fun a b c => xup_ne (by omega))⟩, t4.tr (fun a ha => xup_ne (by omega))⟩
theorem Tr_clear {K : xG} {h x : Nat} {G0 G : xHp} {hk : xHl} {rk : xRw} {rt : Option Nat} {ch mo : Int32} (hT : TrW G0 G x hk rk rt ch mo) : xCall K mX2_clear 1 0 0 [.ref (x + 37)] h G (trQ G0 h x none hk (clearR hk) rt ch mo) := by
  refine x_callpost (fun v h' G' hq => ?_) (Day_clear hT.2.1)
  obtain ⟨e1, e2, e3⟩ := hq
  exact ⟨_, hT.row _, e1, e2, e3⟩
