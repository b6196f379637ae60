/-! ===== the reference: what is taken ===== -/
theorem seg_cl {E : List Nat} {e : Nat} {a b rest : List Nat} (h : E.drop e = a ++ (b ++ rest)) : (E.drop e).take (e + a.length - e) = a ∧ (E.drop (e + a.length)).take (e + a.length + b.length - (e + a.length)) = b ∧ E.drop (e + a.length + b.length) = rest ∧ e + a.length + b.length ≤ E.length ∨ E.length < e ∧ a = [] ∧ b = [] := by
  by_cases hl : E.length < e
  · right
    rw [List.drop_eq_nil_of_le (by omega)] at h
    have h1 := List.append_eq_nil_iff.mp h.symm
    have h2 := List.append_eq_nil_iff.mp h1.2
    exact ⟨hl, h1.1, h2.1⟩
  · left
    have hlen := congrArg List.length h
    simp only [List.length_drop, List.length_append] at hlen
    have d1 : E.drop (e + a.length) = b ++ rest := by rw [← List.drop_drop, h]; simp
    have d2 : E.drop (e + a.length + b.length) = rest := by rw [← List.drop_drop, d1]; simp
    refine ⟨?_, ?_, d2, by omega⟩
    · rw [h, show e + a.length - e = a.length by omega]; simp
    · rw [d1, show e + a.length + b.length - (e + a.length) = b.length by omega]; simp
def RvR (A : Nat → Nat → Int32) (sc : Nat × Nat × Int32) (rv : Option (List Nat)) : Prop := (sc.2.2 = -1 ∧ rv = none) ∨ ∃ w cs sp, sc.2.2 = nI w ∧ rv = some sp ∧ RefR A w cs ∧ (∀ (wd : Nat → Int64) (c : List Nat × List Nat), c ∈ cs → WfC wd c) ∧ ∀ wd, wantF wd cs = evC wd sp []
theorem w12 {f g : Nat → Int64} (h0 : f 0 = g 0) (h1 : f 1 = g 1) (h2 : f 2 = g 2) (h3 : f 3 = g 3) (h4 : f 4 = g 4) (h5 : f 5 = g 5) (h6 : f 6 = g 6) (h7 : f 7 = g 7) (h8 : f 8 = g 8) (h9 : f 9 = g 9) (h10 : f 10 = g 10) (h11 : f 11 = g 11) : ∀ j, j < 12 → f j = g j
  | 0, _ => h0
  | 1, _ => h1
  | 2, _ => h2
  | 3, _ => h3
  | 4, _ => h4
  | 5, _ => h5
  | 6, _ => h6
  | 7, _ => h7
  | 8, _ => h8
  | 9, _ => h9
  | 10, _ => h10
  | 11, _ => h11
  | j + 12, h => absurd h (by omega)
theorem cnt_1 {p : Nat → Bool} {n : Nat} (h : p n = true) : cntF p n + 1 = cntF p (n + 1) := cntF_t h
theorem cnt_0 {p : Nat → Bool} {n : Nat} (h : p n = false) : cntF p n + 0 = cntF p (n + 1) := cntF_f h
def key0 (hl : xHl) (t : Nat) : Int64 := (10000 : Int64) - (nI (hl 5 t)).toInt64
theorem key_sh {hl : xHl} {r : xRw} {q t : Nat} (h : hl 5 t ≤ 400) : 0 < keyOf hl none r q t ∧ keyOf hl none r q t < 100000 ∧ key0 hl t = keyOf hl none r q t + 9000 := by
  have e : keyOf hl none r q t = lN (1000 - hl 5 t) := by
    show (nI 1000 - nI (hl 5 t)).toInt64 = _
    rw [pk_sub (by omega), nI_l (by omega)]
  have e0 : key0 hl t = lN (10000 - hl 5 t) := by
    show (10000 : Int64) - (nI (hl 5 t)).toInt64 = _
    rw [nI_l (by omega), show (10000 : Int64) = lN 10000 by decide, lN_sub (by omega)]
  rw [e, e0, show (9000 : Int64) = lN 9000 by decide, lN_add, show (0 : Int64) = lN 0 by decide, show (100000 : Int64) = lN 100000 by decide, lN_lt (by omega) (by omega), lN_lt (by omega) (by omega)]
  refine ⟨by omega, by omega, ?_⟩
  congr 1; omega
theorem choice_0 {hl : xHl} {r : xRw} {q : Nat} (h : ∀ t, t < hl 0 4 → hl 5 t ≤ 400) : (chF (canT hl r q) (key0 hl) (hl 0 4)).1 = choice hl none r q :=
  (chF_shift (p := canT hl r q) (fun t ht => key_sh (r := r) (q := q) (h t ht))).1
theorem choice_s {hl : xHl} {r : xRw} {q : Nat} {sp : List Nat} {cs : List (List Nat × List Nat)} (h : ∀ wd, wantF wd cs = evC wd sp []) : (chF (canT hl r q) (fun t => wantF (wordOf hl r q t) cs) (hl 0 4)).1 = choice hl (some sp) r q := by
  have e : (fun t => wantF (wordOf hl r q t) cs) = keyOf hl (some sp) r q := by funext t; exact h _
  unfold choice; rw [e]
abbrev mdX (G0 : xHp) (h y : Nat) (v : Option Value) (hl : xHl) (r : xRw) (sc : Nat × Nat × Int32) (A : Nat → Nat → Int32) (F : Nat → Int32) : xPost := xEx (fun e : ((Nat → Int64) × (Nat → Int64)) × xHp => MW G0 e.2 y hl r sc A F e.1.1 e.1.2) (fun _ => v) (fun _ => h) (fun e => e.2)
def wP (hl : xHl) (r : xRw) (q t : Nat) (wa : Nat → Int64) (i : Nat) : Nat → Int64 := fun j => if j < i then wordOf hl r q t j else wa j
theorem wP_0 (hl : xHl) (r : xRw) (q t : Nat) (wa : Nat → Int64) : wP hl r q t wa 0 = wa := by
  funext j; unfold wP; rw [if_neg (by omega)]
theorem wP_s (hl : xHl) (r : xRw) (q t : Nat) (wa : Nat → Int64) (i : Nat) : vp_updL (wP hl r q t wa i) i (wordOf hl r q t i) = wP hl r q t wa (i + 1) := by
  funext j
  unfold vp_updL wP
  by_cases e : j = i
  · subst e; rw [if_pos rfl, if_pos (by omega)]
  · rw [if_neg e]
    by_cases h : j < i
    · rw [if_pos h, if_pos (by omega)]
    · rw [if_neg h, if_neg (by omega)]
