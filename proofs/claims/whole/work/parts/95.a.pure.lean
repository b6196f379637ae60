/-! ===== the reference: swap, saturdays ===== -/
def SwOk (B : Int32 × Int32 × Int32) : Prop := B = (nI 0, -2, -2) ∨ (0 < B.1 ∧ ∃ a, a < 100 ∧ B.2.1 = nI a)
theorem swS_ok {hl : xHl} {r : xRw} {f s : Nat} {B : Int32 × Int32 × Int32} (h : SwOk B) (hf : f < 100) : SwOk (swS hl r f s B) := by
  unfold swS
  by_cases e : B.1 < lessS hl r f s
  · rw [if_pos e]
    refine Or.inr ⟨?_, f, hf, rfl⟩
    rcases h with h | ⟨h, -⟩
    · rw [h] at e; exact e
    · show 0 < lessS hl r f s
      rw [Int32.lt_iff_toInt_lt] at h e ⊢
      omega
  · rw [if_neg e]; exact h
theorem swI_ok {hl : xHl} {r : xRw} {f : Nat} {B : Int32 × Int32 × Int32} (h : SwOk B) (hf : f < 100) : ∀ j, SwOk (swI hl r f j B)
  | 0 => h
  | j + 1 => by rw [swI_s]; exact swS_ok (swI_ok h hf j) hf
theorem swO_ok {hl : xHl} {r : xRw} : ∀ n, n ≤ 100 → SwOk (swO hl r n)
  | 0, _ => Or.inl rfl
  | n + 1, hn => by rw [swO_s]; exact swI_ok (swO_ok n (by omega)) (by omega) _
def swAns (hl : xHl) (r : xRw) (w : Int32) : Int32 := if w = 0 then (if 0 < (swO hl r (hl 0 3)).1 then (swO hl r (hl 0 3)).1 else -2) else if w = nI 1 then (swO hl r (hl 0 3)).2.1 else (swO hl r (hl 0 3)).2.2
theorem sw_none {hl : xHl} {r : xRw} {w : Int32} (h3 : hl 0 3 ≤ 4) (h : (swO hl r (hl 0 3)).2.1 = -2) : swAns hl r w = -2 := by
  unfold swAns
  rcases swO_ok (hl := hl) (r := r) (hl 0 3) (by omega) with e | ⟨-, a, ha, e⟩
  · rw [e]
    show (if w = 0 then (if (0 : Int32) < nI 0 then nI 0 else -2) else if w = nI 1 then -2 else -2) = (-2 : Int32)
    rw [if_neg (c := (0 : Int32) < nI 0) (by decide), ite_self, ite_self]
  · rw [e] at h
    exact absurd h (fun q => by have e2 := congrArg Int32.toInt q; rw [nI_toInt (by omega)] at e2; have e3 : ((-2 : Int32)).toInt = -2 := (by decide); omega)
theorem sw_some {hl : xHl} {r : xRw} (h3 : hl 0 3 ≤ 4) (h : ¬ (swO hl r (hl 0 3)).2.1 = -2) : 0 < (swO hl r (hl 0 3)).1 := by
  rcases swO_ok (hl := hl) (r := r) (hl 0 3) (by omega) with e | ⟨e, -⟩
  · rw [e] at h; exact absurd rfl h
  · exact e
theorem less_0 {hl : xHl} {r : xRw} {f s : Nat} (h : r (5 + f) = -1 ∨ r (5 + s) = -1) : lessS hl r f s = nI 0 := if_pos h
theorem less_1 {hl : xHl} {r : xRw} {f s ta tb : Nat} (h1 : ¬ r (5 + f) = -1) (h2 : ¬ r (5 + s) = -1) (ha : r (5 + f) = nI ta) (hb : r (5 + s) = nI tb) (hta : ta < 100) (htb : tb < 100) (h : skJ (hl 3 (4 * f + hl 4 tb)) = -1 ∨ skJ (hl 3 (4 * s + hl 4 ta)) = -1) (hs : ∀ j, hl 3 j < 2 ^ 31) : lessS hl r f s = nI 0 := by
  unfold lessS
  rw [if_neg (fun z => z.elim h1 h2), ha, hb, thN_nI (by omega), thN_nI (by omega)]
  refine if_pos ?_
  rcases h with h | h
  · left
    rw [Nat.mul_comm]
    exact Decidable.byContradiction (fun z => (skJ_ne (hs _)).mpr (by omega) h)
  · right
    rw [Nat.mul_comm]
    exact Decidable.byContradiction (fun z => (skJ_ne (hs _)).mpr (by omega) h)
theorem less_2 {hl : xHl} {r : xRw} {f s ta tb : Nat} (h1 : ¬ r (5 + f) = -1) (h2 : ¬ r (5 + s) = -1) (ha : r (5 + f) = nI ta) (hb : r (5 + s) = nI tb) (hta : ta < 100) (htb : tb < 100) (h : ¬ skJ (hl 3 (4 * f + hl 4 tb)) = -1) (h' : ¬ skJ (hl 3 (4 * s + hl 4 ta)) = -1) (hs : ∀ j, hl 3 j < 2 ^ 31) : lessS hl r f s = r (9 + f) + r (9 + s) - nI (effS hl f tb) - nI (effS hl s ta) := by
  unfold lessS
  have k1 := (skJ_ne (hs _)).mp h
  have k2 := (skJ_ne (hs _)).mp h'
  rw [if_neg (fun z => z.elim h1 h2), ha, hb, thN_nI (by omega), thN_nI (by omega), if_neg (by rw [Nat.mul_comm f, Nat.mul_comm s]; omega)]
theorem swS_n {hl : xHl} {r : xRw} {f s : Nat} {B : Int32 × Int32 × Int32} {v : Int32} (h : lessS hl r f s = v) (hv : v ≤ B.1) : swS hl r f s B = B := by
  unfold swS
  rw [h, if_neg (Int32.not_lt.mpr hv)]
theorem swS_y {hl : xHl} {r : xRw} {f s : Nat} {B : Int32 × Int32 × Int32} {v : Int32} (h : lessS hl r f s = v) (hv : ¬ v ≤ B.1) : swS hl r f s B = (v, nI f, nI s) := by
  unfold swS
  rw [h, if_pos (Int32.not_le.mp hv)]
theorem sat_bk {a g : Nat} {hl : xHl} (t : Nat) : lbH hl (satF a g hl t).2 = hl := lbH_same (fun i h0 h5 => by funext j; exact satF_k a g hl h5 j t)
theorem in_2 (w : Int32) : decide ((0 : Int64) ≤ w.toInt64 ∧ w.toInt64 ≤ (2 : Int64)) = inR w 3 := by
  unfold inR
  apply decide_eq_decide.mpr
  have e2 : w.toInt64 ≤ (2 : Int64) ↔ w.toInt ≤ 2 := by rw [Int64.le_iff_toInt_le, Int32.toInt_toInt64]; rfl
  rw [i64_0, e2]
  omega
theorem in_p60 (w : Int32) : decide ((0 : Int64) ≤ w.toInt64 ∧ w.toInt64 ≤ (60 : Int64)) = inR w 61 := by
  unfold inR
  apply decide_eq_decide.mpr
  have e2 : w.toInt64 ≤ (60 : Int64) ↔ w.toInt ≤ 60 := by rw [Int64.le_iff_toInt_le, Int32.toInt_toInt64]; rfl
  rw [i64_0, e2]
  omega
theorem in_10 (w : Int32) : decide ((1 : Int64) ≤ w.toInt64 ∧ w.toInt64 ≤ (10 : Int64)) = decide (¬ w < nI 1 ∧ ¬ nI 10 < w) := by
  apply decide_eq_decide.mpr
  have e1 : (1 : Int64) ≤ w.toInt64 ↔ 1 ≤ w.toInt := by rw [Int64.le_iff_toInt_le, Int32.toInt_toInt64]; rfl
  have e2 : w.toInt64 ≤ (10 : Int64) ↔ w.toInt ≤ 10 := by rw [Int64.le_iff_toInt_le, Int32.toInt_toInt64]; rfl
  rw [e1, e2, Int32.lt_iff_toInt_lt, Int32.lt_iff_toInt_lt, nI_toInt (by decide), nI_toInt (by decide)]
  omega
theorem drw_lt {a g : Nat} (hg : 0 < g) : drwN a / 65536 % g < g := Nat.mod_lt _ hg
theorem RvR.fo {A : Nat → Nat → Int32} {sc sc' : Nat × Nat × Int32} {rv : Option (List Nat)} (hV : RvR A sc rv) (h : sc'.2.2 = sc.2.2) : RvR A sc' rv := by
  unfold RvR at hV ⊢
  rw [h]; exact hV
