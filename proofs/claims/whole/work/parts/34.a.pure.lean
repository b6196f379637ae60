/-! ===== words at hand, faults, numbers ===== -/
def wl (i : Nat) : List Nat := (xs_byt i).map (fun v => v.toInt.toNat)
theorem wl_len (i : Nat) : (wl i).length = (xs_byt i).length := by simp [wl]
theorem wl_ch : ∀ i, i < 26 → ∀ j, j < (xs_byt i).length → xs_ch i j = nI ((wl i).getD j 0) ∧ (wl i).getD j 0 < 128 := by decide +kernel
def wiF (tk : Nat → Nat) (L : Nat) : List Nat → Nat → Nat → Bool → Option Nat
  | [], w, i, s => if s = true ∧ i = L then some w else none
  | c :: cs, w, i, s => if c = 32 then (if s = true ∧ i = L then some w else wiF tk L cs (w + 1) 0 true) else wiF tk L cs w (i + 1) (s && (decide (i < L) && decide (tk i = c)))
def wiO (tp : Nat → Nat) (n f p : Nat) (ws : List Nat) : Option Nat := if f = 0 ∧ kdA tp n (skP tp n p) = 1 then wiF (fun i => tp (skP tp n p + i)) (atA tp n (skP tp n p) - skP tp n p) ws 0 0 true else none
theorem drop_get {l : List Nat} {m c : Nat} {cs : List Nat} (h : l.drop m = c :: cs) : m < l.length ∧ l.getD m 0 = c ∧ l.drop (m + 1) = cs := by
  have hm : m < l.length := by
    by_cases e : m < l.length
    · exact e
    · rw [List.drop_eq_nil_of_le (by omega)] at h; simp at h
  obtain ⟨h1, h2⟩ := List.cons.inj ((List.drop_eq_getElem_cons hm).symm.trans h)
  exact ⟨hm, by rw [List.getD, List.getElem?_eq_getElem hm]; exact h1, h2⟩
theorem drop_nil {l : List Nat} {m : Nat} (h : l.drop m = []) (hm : m ≤ l.length) : m = l.length := by
  have := congrArg List.length h
  simp at this; omega
def eeP (tp : Nat → Nat) (n f p : Nat) : Nat := if f = 0 ∧ kdA tp n (skP tp n p) = 0 then 0 else flP tp n f p 0
def isS (tp : Nat → Nat) (n f p c : Nat) : Bool := decide (f = 0 ∧ kdA tp n (skP tp n p) = 3 ∧ sgA tp n (skP tp n p) = c)
theorem isS_t {tp : Nat → Nat} {n p c : Nat} (h1 : kdA tp n (skP tp n p) = 3) (h2 : sgA tp n (skP tp n p) = c) : isS tp n 0 p c = true := decide_eq_true ⟨rfl, h1, h2⟩
theorem isS_f {tp : Nat → Nat} {n f p c : Nat} (h : ¬ (f = 0 ∧ kdA tp n (skP tp n p) = 3 ∧ sgA tp n (skP tp n p) = c)) : isS tp n f p c = false := decide_eq_false h
def tnP (tp : Nat → Nat) (n f p : Nat) (lo hi : Int32) : Nat × Nat := if f ≠ 0 then (f, p) else if kdA tp n (skP tp n p) ≠ 2 then (flP tp n f p 0, p) else if nmA tp n (skP tp n p) < lo ∨ hi < nmA tp n (skP tp n p) then (flP tp n f p 1, p) else (0, atA tp n (skP tp n p))
theorem kd_lt (tp : Nat → Nat) (n pl : Nat) : kdA tp n pl ≤ 3 := by
  unfold kdA; split
  · omega
  · split
    · omega
    · split <;> omega
theorem sg_lt {tp : Nat → Nat} (htp : ∀ j, tp j < 256) (n pl : Nat) : sgA tp n pl < 512 := by
  have := htp pl
  unfold sgA; split
  · omega
  · split <;> omega
theorem flP_lt {tp : Nat → Nat} {n f p w : Nat} (hn : n ≤ 400) (hp : p ≤ n) (hf : f < 10000) (hw : w < 8) : flP tp n f p w < 10000 ∧ 0 < flP tp n 0 p w := by
  have := sk_le (tp := tp) hp
  unfold flP
  refine ⟨?_, ?_⟩
  · split <;> omega
  · rw [if_pos rfl]; omega
theorem RdAt.f_lt {G : xHp} {b tx n : Nat} {tp : Nat → Nat} {f p : Nat} (h : RdAt G b tx n tp f p) : f < 10000 := by
  rcases h.2.2.2.2 with q | q
  · omega
  · exact q.2.1
theorem RdAt.p {G : xHp} {b tx n : Nat} {tp : Nat → Nat} {f p p' : Nat} (h : RdAt G b tx n tp f p) (hf : f ≠ 0) (hp : p' ≤ n) : RdAt G b tx n tp f p' := by
  obtain ⟨a1, a2, a3, a4, a5⟩ := h
  rcases a5 with q | q
  · exact absurd q.1 hf
  · exact ⟨a1, hp, a3, a4, Or.inr q⟩
theorem wiF_lt (tk : Nat → Nat) (L : Nat) : ∀ (l : List Nat) (w i : Nat) (s : Bool) (k : Nat), wiF tk L l w i s = some k → k ≤ w + l.length
  | [], w, i, s, k, h => by
    simp only [wiF] at h
    split at h
    · simp at h; omega
    · simp at h
  | c :: cs, w, i, s, k, h => by
    simp only [wiF] at h
    simp only [List.length_cons]
    split at h
    · split at h
      · simp at h; omega
      · have := wiF_lt tk L cs _ _ _ k h; omega
    · have := wiF_lt tk L cs _ _ _ k h; omega
theorem wiO_lt (tp : Nat → Nat) (n f p : Nat) (ws : List Nat) : ∀ k, wiO tp n f p ws = some k → k ≤ ws.length := by
  intro k h
  unfold wiO at h
  split at h
  · have := wiF_lt _ _ _ _ _ _ _ h; omega
  · simp at h
theorem chI_0 {o : Option Nat} {m : Nat} (h : ∀ k, o = some k → k ≤ m) (hm : m < 2 ^ 31) (h0 : chI o = 0) : o = some 0 := by
  cases o with
  | none => exact absurd h0 (by decide)
  | some k =>
    have := h k rfl
    exact congrArg some ((nI_eq (b := 0) (by omega) (by decide)).mp h0)
