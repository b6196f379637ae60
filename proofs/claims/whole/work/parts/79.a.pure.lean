/-! ===== the reference's reader against the class's: words ===== -/
theorem wiF_w (tk : Nat → Nat) (L : Nat) (rest : List Nat) (idx : Nat) : ∀ (w : List Nat) (i : Nat) (s : Bool), (∀ c ∈ w, c ≠ 32) → wiF tk L (w ++ 32 :: rest) idx i s = if s = true ∧ (∀ j, j < w.length → i + j < L ∧ tk (i + j) = w.getD j 0) ∧ i + w.length = L then some idx else wiF tk L rest (idx + 1) 0 true
  | [], i, s, _ => by
    show (if (32 : Nat) = 32 then (if s = true ∧ i = L then some idx else _) else _) = _
    rw [if_pos rfl]
    by_cases e : s = true ∧ i = L
    · rw [if_pos e, if_pos ⟨e.1, fun j hj => absurd hj (by simp), e.2⟩]
    · rw [if_neg e, if_neg (fun q => e ⟨q.1, q.2.2⟩)]
  | c :: cs, i, s, hc => by
    have h32 : c ≠ 32 := hc c (by simp)
    show (if c = 32 then _ else wiF tk L (cs ++ 32 :: rest) idx (i + 1) (s && (decide (i < L) && decide (tk i = c)))) = _
    rw [if_neg h32, wiF_w tk L rest idx cs (i + 1) _ (fun d hd => hc d (by simp [hd]))]
    apply ite_congr _ (fun _ => rfl) (fun _ => rfl)
    apply propext
    constructor
    · rintro ⟨h1, h2, h3⟩
      simp only [Bool.and_eq_true, decide_eq_true_eq] at h1
      refine ⟨h1.1, fun j hj => ?_, by simp only [List.length_cons]; omega⟩
      cases j with
      | zero => exact ⟨h1.2.1, h1.2.2⟩
      | succ j =>
        have h4 := h2 j (by simp only [List.length_cons] at hj; omega)
        rw [show i + (j + 1) = i + 1 + j by omega]
        exact h4
    · rintro ⟨h1, h2, h3⟩
      simp only [List.length_cons] at h3
      have h0 := h2 0 (by simp)
      refine ⟨?_, fun j hj => ?_, by omega⟩
      · simp only [Bool.and_eq_true, decide_eq_true_eq]
        exact ⟨h1, h0.1, h0.2⟩
      · have h4 := h2 (j + 1) (by simp only [List.length_cons]; omega)
        rw [show i + (j + 1) = i + 1 + j by omega] at h4
        exact h4
theorem wiF_e (tk : Nat → Nat) (L : Nat) (idx : Nat) : ∀ (w : List Nat) (i : Nat) (s : Bool), (∀ c ∈ w, c ≠ 32) → wiF tk L w idx i s = if s = true ∧ (∀ j, j < w.length → i + j < L ∧ tk (i + j) = w.getD j 0) ∧ i + w.length = L then some idx else none
  | [], i, s, _ => by
    show (if s = true ∧ i = L then some idx else none) = _
    by_cases e : s = true ∧ i = L
    · rw [if_pos e, if_pos ⟨e.1, fun j hj => absurd hj (by simp), e.2⟩]
    · rw [if_neg e, if_neg (fun q => e ⟨q.1, q.2.2⟩)]
  | c :: cs, i, s, hc => by
    have h32 : c ≠ 32 := hc c (by simp)
    show (if c = 32 then _ else wiF tk L cs idx (i + 1) (s && (decide (i < L) && decide (tk i = c)))) = _
    rw [if_neg h32, wiF_e tk L idx cs (i + 1) _ (fun d hd => hc d (by simp [hd]))]
    apply ite_congr _ (fun _ => rfl) (fun _ => rfl)
    apply propext
    constructor
    · rintro ⟨h1, h2, h3⟩
      simp only [Bool.and_eq_true, decide_eq_true_eq] at h1
      refine ⟨h1.1, fun j hj => ?_, by simp only [List.length_cons]; omega⟩
      cases j with
      | zero => exact ⟨h1.2.1, h1.2.2⟩
      | succ j =>
        have h4 := h2 j (by simp only [List.length_cons] at hj; omega)
        rw [show i + (j + 1) = i + 1 + j by omega]
        exact h4
    · rintro ⟨h1, h2, h3⟩
      simp only [List.length_cons] at h3
      have h0 := h2 0 (by simp)
      refine ⟨?_, fun j hj => ?_, by omega⟩
      · simp only [Bool.and_eq_true, decide_eq_true_eq]
        exact ⟨h1, h0.1, h0.2⟩
      · have h4 := h2 (j + 1) (by simp only [List.length_cons]; omega)
        rw [show i + (j + 1) = i + 1 + j by omega] at h4
        exact h4
theorem eqW_iff {tp : Nat → Nat} {p i : Nat} : ∀ {k : Nat}, eqW tp p i k = true ↔ ∀ j, j < k → tp (p + j) = (wl i).getD j 0
  | 0 => ⟨fun _ j hj => by omega, fun _ => rfl⟩
  | k + 1 => by
    show (eqW tp p i k && decide _) = true ↔ _
    rw [Bool.and_eq_true, eqW_iff, decide_eq_true_eq]
    constructor
    · rintro ⟨h1, h2⟩ j hj
      by_cases e : j = k
      · rw [e]; exact h2
      · exact h1 j (by omega)
    · intro hh
      exact ⟨fun j hj => hh j (by omega), hh k (by omega)⟩
/-- a word stands at a letter -/
theorem stB_iff {tp : Nat → Nat} {n p i : Nat} : stB tp n p i = true ↔ ((∀ j, j < (wl i).length → 0 + j < runF (isLw tp) (n - p) p - p ∧ tp (p + (0 + j)) = (wl i).getD j 0) ∧ 0 + (wl i).length = runF (isLw tp) (n - p) p - p) := by
  unfold stB
  rw [Bool.and_eq_true, decide_eq_true_eq, eqW_iff]
  constructor
  · rintro ⟨h1, h2⟩
    exact ⟨fun j hj => ⟨by omega, by rw [Nat.zero_add]; exact h2 j hj⟩, by omega⟩
  · rintro ⟨h1, h2⟩
    exact ⟨by omega, fun j hj => by have := (h1 j hj).2; rw [Nat.zero_add] at this; exact this⟩
def sfx (W : Nat → Nat) : Nat → Nat → List Nat
  | 0, k => wl (W k)
  | j + 1, k => wl (W k) ++ 32 :: sfx W j (k + 1)
def wkG (st : Nat → Bool) : Nat → Nat → Option Nat
  | 0, k => if st k = true then some k else none
  | j + 1, k => if st k = true then some k else wkG st j (k + 1)
theorem wl_32 : ∀ i, i < 26 → i ≠ 0 → i ≠ 6 → ∀ c ∈ wl i, c ≠ 32 := by decide +kernel
theorem wl_0 : ∀ i, i < 26 → 0 < (wl i).length := by decide +kernel
theorem wiF_sfx {tp : Nat → Nat} {n p : Nat} {W : Nat → Nat} (hW : ∀ k, W k < 26 ∧ W k ≠ 0 ∧ W k ≠ 6) : ∀ j k, wiF (fun i => tp (p + i)) (runF (isLw tp) (n - p) p - p) (sfx W j k) k 0 true = wkG (fun k => stB tp n p (W k)) j k
  | 0, k => by
    obtain ⟨h1, h2, h3⟩ := hW k
    show wiF _ _ (wl (W k)) k 0 true = if stB tp n p (W k) = true then some k else none
    rw [wiF_e _ _ _ _ _ _ (wl_32 _ h1 h2 h3)]
    apply ite_congr _ (fun _ => rfl) (fun _ => rfl)
    rw [stB_iff]
    exact propext ⟨fun q => q.2, fun q => ⟨rfl, q⟩⟩
  | j + 1, k => by
    obtain ⟨h1, h2, h3⟩ := hW k
    show wiF _ _ (wl (W k) ++ 32 :: sfx W j (k + 1)) k 0 true = if stB tp n p (W k) = true then some k else wkG _ j (k + 1)
    rw [wiF_w _ _ _ _ _ _ _ (wl_32 _ h1 h2 h3), wiF_sfx hW j (k + 1)]
    apply ite_congr _ (fun _ => rfl) (fun _ => rfl)
    rw [stB_iff]
    exact propext ⟨fun q => q.2, fun q => ⟨rfl, q⟩⟩
def w12_i (k : Nat) : Nat := if k < 12 then 7 + k else 7
theorem wl6_sfx : wl 6 = sfx w12_i 11 0 := by decide +kernel
theorem w12_ok (k : Nat) : w12_i k < 26 ∧ w12_i k ≠ 0 ∧ w12_i k ≠ 6 := by unfold w12_i; split <;> omega
theorem wkG_F {tp : Nat → Nat} {n p : Nat} : ∀ j k, k + j = 11 → wkG (fun k => stB tp n p (w12_i k)) j k = if wkF tp n p (j + 1) k = 12 then none else some (wkF tp n p (j + 1) k)
  | 0, k, h => by
    have hk : w12_i k = 7 + k := if_pos (by omega)
    show (if stB tp n p (w12_i k) = true then some k else none) = if (if stB tp n p (7 + k) = true then k else k + 1) = 12 then none else some (if stB tp n p (7 + k) = true then k else k + 1)
    rw [hk]
    by_cases e : stB tp n p (7 + k) = true
    · rw [if_pos e, if_pos e, if_neg (by omega)]
    · rw [if_neg e, if_neg e, if_pos (by omega)]
  | j + 1, k, h => by
    have hk : w12_i k = 7 + k := if_pos (by omega)
    show (if stB tp n p (w12_i k) = true then some k else wkG _ j (k + 1)) = if (if stB tp n p (7 + k) = true then k else wkF tp n p (j + 1) (k + 1)) = 12 then none else some (if stB tp n p (7 + k) = true then k else wkF tp n p (j + 1) (k + 1))
    rw [hk]
    by_cases e : stB tp n p (7 + k) = true
    · rw [if_pos e, if_pos e, if_neg (by omega)]
    · rw [if_neg e, if_neg e]
      exact wkG_F j (k + 1) (by omega)
/-- no word stands where no letter is -/
theorem stB_no {tp : Nat → Nat} {n p i : Nat} (hi : i < 26) (h : kdA tp n p ≠ 1) : stB tp n p i = false := by
  have h0 := wl_0 i hi
  have hr : runF (isLw tp) (n - p) p = p := by
    by_cases e : n ≤ p
    · rw [show n - p = 0 by omega]; rfl
    · obtain ⟨k, hk⟩ : ∃ k, n - p = k + 1 := ⟨n - p - 1, by omega⟩
      rw [hk]
      refine runF_f ?_
      by_cases e2 : isLw tp p = true
      · exact absurd (kd_w (by omega) e2) h
      · simpa using e2
  unfold stB
  rw [hr, decide_eq_false (by omega)]; rfl
theorem wkF_no {tp : Nat → Nat} {n p : Nat} (h : kdA tp n p ≠ 1) : ∀ j k, k + j ≤ 12 → wkF tp n p j k = k + j
  | 0, k, _ => rfl
  | j + 1, k, hk => by
    simp only [wkF]
    rw [if_neg (by rw [stB_no (by omega) h]; decide), wkF_no h j (k + 1) (by omega)]
    omega
theorem at_run {tp : Nat → Nat} {n p : Nat} (h : kdA tp n p = 1) : p < n ∧ isLw tp p = true ∧ atA tp n p = runF (isLw tp) (n - p) p := by
  unfold kdA at h
  by_cases e : n ≤ p
  · rw [if_pos e] at h; omega
  · rw [if_neg e] at h
    by_cases e2 : isLw tp p = true
    · exact ⟨by omega, e2, at_w (by omega) e2⟩
    · rw [if_neg e2] at h
      split at h <;> omega
theorem wiO_wk {tp : Nat → Nat} {n p : Nat} : wiO tp n 0 p (wl 6) = if wkF tp n (skP tp n p) 12 0 = 12 then none else some (wkF tp n (skP tp n p) 12 0) := by
  unfold wiO
  by_cases e : kdA tp n (skP tp n p) = 1
  · rw [if_pos ⟨rfl, e⟩, (at_run e).2.2, wl6_sfx, wiF_sfx w12_ok, wkG_F 11 0 rfl]
  · rw [if_neg (fun q => e q.2), wkF_no e 12 0 (by omega), if_pos rfl]
/-- one word asked for -/
theorem isW_st {tp : Nat → Nat} {n : Nat} {s : xPS} {i : Nat} (hi : i < 26) (h0 : i ≠ 0) (h6 : i ≠ 6) (hf : s.1 = 0) : isW tp n s i = stB tp n (skP tp n s.2.1) i := by
  unfold isW wiO
  by_cases e : kdA tp n (skP tp n s.2.1) = 1
  · rw [if_pos ⟨hf, e⟩, (at_run e).2.2, wiF_e _ _ _ _ _ _ (wl_32 _ hi h0 h6)]
    rcases hb : stB tp n (skP tp n s.2.1) i with _ | _
    · rw [if_neg (fun q => absurd ((stB_iff.mpr q.2).symm.trans hb) (by decide))]; rfl
    · rw [if_pos ⟨rfl, stB_iff.mp hb⟩]; rfl
  · rw [if_neg (fun q => e q.2), stB_no hi e]; rfl
theorem wl_e5 : wl 19 = wl 5 := by decide +kernel
theorem wl_e3 : wl 20 = wl 3 := by decide +kernel
theorem wl_e4 : wl 21 = wl 4 := by decide +kernel
theorem wl_e1 : wl 24 = wl 1 := by decide +kernel
theorem wl_e2 : wl 25 = wl 2 := by decide +kernel
theorem eqW_e {tp : Nat → Nat} {p i j : Nat} (h : wl i = wl j) : ∀ k, eqW tp p i k = eqW tp p j k
  | 0 => rfl
  | k + 1 => by
    show (eqW tp p i k && _) = (eqW tp p j k && _)
    rw [eqW_e h k, h]
theorem stB_e {tp : Nat → Nat} {n p i j : Nat} (h : wl i = wl j) : stB tp n p i = stB tp n p j := by
  unfold stB; rw [h, eqW_e h]
