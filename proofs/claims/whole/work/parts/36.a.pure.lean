/-! ===== a rule read: values and sums ===== -/
theorem nmF_big (tp : Nat → Nat) (pl : Nat) : ∀ {k : Nat}, 5 < k → nmF tp pl k = -1
  | 0, h => by omega
  | k + 1, h => if_neg (by omega)
theorem nmF_val (tp : Nat → Nat) (pl : Nat) : ∀ k, k ≤ 5 → (∀ j, j < k → isDg tp (pl + j) = true) → ∃ v, v < 10 ^ k ∧ nmF tp pl k = nI v
  | 0, _, _ => ⟨0, by decide, rfl⟩
  | k + 1, h, hd => by
    obtain ⟨v, h1, h2⟩ := nmF_val tp pl k (by omega) (fun j hj => hd j (by omega))
    have h3 := of_decide_eq_true (hd k (by omega))
    refine ⟨v * 10 + (tp (pl + k) - 48), ?_, ?_⟩
    · rw [Nat.pow_succ]; omega
    · show (if k < 5 then nmF tp pl k * nI 10 + nI (tp (pl + k)) - nI 48 else -1) = _
      rw [if_pos (by omega), h2, pk_mul, nI_add, pk_sub (by omega)]
      congr 1; omega
theorem nm_num {tp : Nat → Nat} {n p : Nat} (h2 : kdA tp n (skP tp n p) = 2) (h : ¬ nmA tp n (skP tp n p) = -1) : nmA tp n (skP tp n p) = nI (nmN tp n p) ∧ nmN tp n p < 100000 := by
  have e := nm_d h2
  have hk : runF (isDg tp) (n - skP tp n p) (skP tp n p) - skP tp n p ≤ 5 := by
    refine Nat.not_lt.mp (fun q => h ?_)
    rw [e, nmF_big tp _ q]
  have hr := runF_le (isDg tp) (n - skP tp n p) (skP tp n p)
  obtain ⟨v, h3, h4⟩ := nmF_val tp (skP tp n p) _ hk (fun j hj => runF_in (p := skP tp n p) (k := n - skP tp n p) (by omega) (by omega))
  have h5 : v < 100000 := Nat.lt_of_lt_of_le h3 (Nat.pow_le_pow_right (by decide) hk)
  have h6 : nmN tp n p = v := by unfold nmN; rw [e, h4, thN_nI (by omega)]
  rw [h6]
  exact ⟨e.trans h4, h5⟩
theorem nI_orN (a b : Nat) : nI a ||| nI b = nI (a ||| b) := by
  apply Int32.toBitVec_inj.mp
  simp [nI, BitVec.ofNat_or]
theorem step_or {k op : Nat} (hk : k < 2048) (hop : op < 1048576) : nI k <<< (nI 20 &&& 31) ||| nI op = nI (k * 1048576 + op) := by
  rw [show (nI 20 &&& 31 : Int32) = nI 20 by decide, pk_shlN (nI 20) 20 (by decide) (by omega), nI_orN]
  congr 1
  have := Nat.two_pow_add_eq_or_of_lt (i := 20) hop k
  rw [Nat.mul_comm k]
  exact this.symm
abbrev xPS : Type := Nat × Nat × Nat × List Nat
def putP (s : xPS) (k op : Nat) : xPS := if s.2.2.2.length < 400 then (s.1, s.2.1, s.2.2.1, s.2.2.2 ++ [k * 1048576 + op]) else s
def failP (tp : Nat → Nat) (n : Nat) (s : xPS) (w : Nat) : xPS := (flP tp n s.1 s.2.1 w, s.2.1, s.2.2)
def nextP (tp : Nat → Nat) (n : Nat) (s : xPS) : xPS := (s.1, atA tp n (skP tp n s.2.1), s.2.2)
def cntP (s : xPS) : xPS := (s.1, s.2.1, s.2.2.1 + 1, s.2.2.2)
def valP (tp : Nat → Nat) (n : Nat) (s : xPS) : xPS := match wiO tp n s.1 s.2.1 (wl 6) with
  | some w => if 60 ≤ s.2.2.1 then failP tp n s 3 else nextP tp n (putP (cntP s) 1 w)
  | none => if ¬ (s.1 = 0 ∧ kdA tp n (skP tp n s.2.1) = 2) then failP tp n s 0 else if nmA tp n (skP tp n s.2.1) = -1 then failP tp n s 1 else if 60 ≤ s.2.2.1 then failP tp n s 3 else nextP tp n (putP (cntP s) 0 (nmN tp n s.2.1))
def sgK (c : Nat) : Option Nat := if c = 37 then some 6 else if c = 42 then some 4 else if c = 43 then some 2 else if c = 45 then some 3 else if c = 47 then some 5 else if c = 60 then some 7 else if c = 61 then some 9 else if c = 62 then some 11 else if c = 316 then some 8 else if c = 318 then some 10 else none
theorem sgK_lt {c k : Nat} (h : sgK c = some k) : 2 ≤ k ∧ k ≤ 11 := by
  unfold sgK at h
  repeat' split at h
  all_goals (try (simp at h)) <;> omega
def stpP (tp : Nat → Nat) (n : Nat) (s : xPS) : Option Nat := if s.1 = 0 ∧ kdA tp n (skP tp n s.2.1) = 3 then sgK (sgA tp n (skP tp n s.2.1)) else none
theorem stp_lt {tp : Nat → Nat} {n : Nat} {s : xPS} {k : Nat} (h : stpP tp n s = some k) : s.1 = 0 ∧ kdA tp n (skP tp n s.2.1) = 3 ∧ 2 ≤ k ∧ k ≤ 11 := by
  unfold stpP at h
  split at h
  · rename_i q; exact ⟨q.1, q.2, sgK_lt h⟩
  · simp at h
def putO (s : xPS) : Option Nat → xPS
  | none => s
  | some k => putP s k 0
def sumL (tp : Nat → Nat) (n : Nat) : Nat → Option Nat → Option Nat → xPS → xPS
  | 0, _, _, s => s
  | k + 1, iS, iT, s => match stpP tp n (putO (valP tp n s) iT) with
    | none => putO (putO (valP tp n s) iT) iS
    | some c => if 4 ≤ c ∧ c ≤ 6 then sumL tp n k iS (some c) (nextP tp n (putO (valP tp n s) iT)) else if c = 2 ∨ c = 3 then sumL tp n k (some c) none (nextP tp n (putO (putO (valP tp n s) iT) iS)) else putO (putO (valP tp n s) iT) iS
theorem sumL_n {tp : Nat → Nat} {n k : Nat} {iS iT : Option Nat} {s : xPS} (h : stpP tp n (putO (valP tp n s) iT) = none) : sumL tp n (k + 1) iS iT s = putO (putO (valP tp n s) iT) iS := by simp only [sumL, h]
theorem sumL_m {tp : Nat → Nat} {n k c : Nat} {iS iT : Option Nat} {s : xPS} (h : stpP tp n (putO (valP tp n s) iT) = some c) (h1 : 4 ≤ c) (h2 : c ≤ 6) : sumL tp n (k + 1) iS iT s = sumL tp n k iS (some c) (nextP tp n (putO (valP tp n s) iT)) := by simp only [sumL, h]; rw [if_pos ⟨h1, h2⟩]
theorem sumL_p {tp : Nat → Nat} {n k c : Nat} {iS iT : Option Nat} {s : xPS} (h : stpP tp n (putO (valP tp n s) iT) = some c) (h1 : c = 2 ∨ c = 3) : sumL tp n (k + 1) iS iT s = sumL tp n k (some c) none (nextP tp n (putO (putO (valP tp n s) iT) iS)) := by simp only [sumL, h]; rw [if_neg (by omega), if_pos h1]
theorem sumL_e {tp : Nat → Nat} {n k c : Nat} {iS iT : Option Nat} {s : xPS} (h : stpP tp n (putO (valP tp n s) iT) = some c) (h1 : ¬ (4 ≤ c ∧ c ≤ 6)) (h2 : ¬ (c = 2 ∨ c = 3)) : sumL tp n (k + 1) iS iT s = putO (putO (valP tp n s) iT) iS := by simp only [sumL, h]; rw [if_neg h1, if_neg h2]
def RRd (G0 G : xHp) (b tx n : Nat) (tp : Nat → Nat) (s : xPS) : Prop := RdAt G (b + 2) tx n tp s.1 s.2.1 ∧ G b = some (eO 9 [.ref (b + 2), .ref (b + 1), .int (nI s.2.2.2.length), .int (nI s.2.2.1)]) ∧ (∃ st : Nat → Int32, G (b + 1) = some (eI 0 400 st) ∧ ∀ j, j < s.2.2.2.length → st j = nI (s.2.2.2.getD j 0)) ∧ s.2.2.2.length ≤ 400 ∧ (∀ v ∈ s.2.2.2, v < 2 ^ 31) ∧ s.2.2.1 ≤ 60 ∧ (∀ a, ¬ (b ≤ a ∧ a < b + 3) → G a = G0 a) ∧ tx < b
abbrev rrQ (G0 : xHp) (h b tx n : Nat) (tp : Nat → Nat) (v : Option Value) (s : xPS) : xPost := xEx (fun G' => RRd G0 G' b tx n tp s) (fun _ => v) (fun _ => h) (fun G' => G')
section RRL
variable {K : xG} {h b tx n : Nat} {G0 G : xHp} {tp : Nat → Nat} {s : xPS}
theorem RRd.rd {G' : xHp} {f' p' : Nat} (hW : RRd G0 G b tx n tp s) (h1 : RdAt G' (b + 2) tx n tp f' p') (h2 : Fr G G' (b + 2) 1) : RRd G0 G' b tx n tp (f', p', s.2.2) := by
  obtain ⟨w1, w2, ⟨st, w3, w4⟩, w5, w6, w7, w8, w9⟩ := hW
  exact ⟨h1, (h2 b (by omega)).trans w2, ⟨st, (h2 (b + 1) (by omega)).trans w3, w4⟩, w5, w6, w7, fun a ha => (h2 a (by omega)).trans (w8 a ha), w9⟩
theorem RRd.fl {y : Nat} (hW : RRd G0 G b tx n tp s) (hy : y < 8) : xCall K mX7_fail 0 0 0 [.ref (b + 2), .int (nI y)] h G (rrQ G0 h b tx n tp none (failP tp n s y)) := by
  refine x_callpost (fun v h' G' hq => ?_) (Rd_fail hW.1 (by have := hW.2.2.2.2.2.2.2; omega) hy)
  obtain ⟨q, ⟨q1, q2⟩, e1, e2, e3⟩ := hq
  exact ⟨q, hW.rd q1 q2, e1, e2, e3⟩
theorem RRd.nx (hW : RRd G0 G b tx n tp s) (h0 : s.1 = 0) : xCall K mX7_next 0 0 0 [.ref (b + 2)] h G (rrQ G0 h b tx n tp none (nextP tp n s)) := by
  obtain ⟨f, p, cn, out⟩ := s
  simp only at h0
  subst h0
  refine x_callpost (fun v h' G' hq => ?_) (Rd_next hW.1 (by have := hW.2.2.2.2.2.2.2; omega))
  obtain ⟨q, ⟨q1, q2⟩, e1, e2, e3⟩ := hq
  exact ⟨q, hW.rd q1 q2, e1, e2, e3⟩
theorem RRd.ee (hW : RRd G0 G b tx n tp s) : xCall K mX7_expectEnd 1 0 0 [.ref (b + 2)] h G (rrQ G0 h b tx n tp none (eeP tp n s.1 s.2.1, s.2)) := by
  refine x_callpost (fun v h' G' hq => ?_) (Rd_expectEnd hW.1 (by have := hW.2.2.2.2.2.2.2; omega))
  obtain ⟨q, ⟨q1, q2⟩, e1, e2, e3⟩ := hq
  exact ⟨q, hW.rd q1 q2, e1, e2, e3⟩
theorem RRd.cnt (hW : RRd G0 G b tx n tp s) (h : s.2.2.1 < 60) : RRd G0 (xup G b (eO 9 [.ref (b + 2), .ref (b + 1), .int (nI s.2.2.2.length), .int (nI (s.2.2.1 + 1))])) b tx n tp (cntP s) := by
  obtain ⟨w1, w2, ⟨st, w3, w4⟩, w5, w6, w7, w8, w9⟩ := hW
  exact ⟨w1.fr (xup_ne (by omega)) (xup_ne (by omega)), xup_eq, ⟨st, xup_of (by omega) w3, w4⟩, w5, w6, h, fun a ha => by rw [xup_ne (by omega)]; exact w8 a ha, w9⟩
theorem putP_f {s : xPS} {k op : Nat} : (putP s k op).1 = s.1 ∧ (putP s k op).2.1 = s.2.1 ∧ (putP s k op).2.2.1 = s.2.2.1 := by
  unfold putP; split <;> exact ⟨rfl, rfl, rfl⟩
end RRL
theorem put_get {l : List Nat} {st : Nat → Int32} {v : Nat} (h : ∀ j, j < l.length → st j = nI (l.getD j 0)) : ∀ j, j < (l ++ [v]).length → upd st l.length (nI v) j = nI ((l ++ [v]).getD j 0) := by
  intro j hj
  simp at hj
  by_cases e : j = l.length
  · subst e; rw [upd_at]; simp [List.getD]
  · rw [upd_off e, h j (by omega)]
    simp only [List.getD]
    rw [List.getElem?_append_left (by omega)]
theorem put_all {l : List Nat} {v : Nat} (h : ∀ x ∈ l, x < 2 ^ 31) (hv : v < 2 ^ 31) : ∀ x ∈ l ++ [v], x < 2 ^ 31 := by
  intro x hx
  rcases List.mem_append.mp hx with q | q
  · exact h x q
  · simp at q; omega
