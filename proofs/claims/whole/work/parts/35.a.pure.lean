/-! ===== a hall read ===== -/
def HallW (G : xHp) (b : Nat) (hl : xHl) (e w : Int32) : Prop := G b = some (eO 3 [.int e, .int w, .int (nI (hl 0 2)), .int (nI (hl 0 3)), .int (nI (hl 0 4)), .ref (b + 1), .ref (b + 2), .ref (b + 3), .ref (b + 4), .ref (b + 5), .ref (b + 6), .ref (b + 7)]) ∧ G (b + 1) = some (eI 0 4 (nF (hl 1))) ∧ G (b + 2) = some (eI 0 4 (nF (hl 2))) ∧ G (b + 3) = some (eI 0 16 (nF (hl 3))) ∧ G (b + 4) = some (eI 0 7 (nF (hl 4))) ∧ G (b + 5) = some (eI 0 7 (nF (hl 5))) ∧ G (b + 6) = some (eI 0 7 (nF (hl 6))) ∧ G (b + 7) = some (eI 0 7 (nF (hl 7))) ∧ ∀ i j, hl i j < 1000000
theorem HallW.fr {G G' : xHp} {b : Nat} {hl : xHl} {e w : Int32} (h : HallW G b hl e w) (hf : ∀ a, b ≤ a → a < b + 8 → G' a = G a) : HallW G' b hl e w := by
  obtain ⟨h0, h1, h2, h3, h4, h5, h6, h7, h8⟩ := h
  exact ⟨(hf _ (by omega) (by omega)).trans h0, (hf _ (by omega) (by omega)).trans h1, (hf _ (by omega) (by omega)).trans h2, (hf _ (by omega) (by omega)).trans h3, (hf _ (by omega) (by omega)).trans h4, (hf _ (by omega) (by omega)).trans h5, (hf _ (by omega) (by omega)).trans h6, (hf _ (by omega) (by omega)).trans h7, h8⟩
theorem HallW.ew {G : xHp} {b : Nat} {hl : xHl} {e w : Int32} (h : HallW G b hl e w) (e' w' : Int32) : HallW (xup G b (eO 3 [.int e', .int w', .int (nI (hl 0 2)), .int (nI (hl 0 3)), .int (nI (hl 0 4)), .ref (b + 1), .ref (b + 2), .ref (b + 3), .ref (b + 4), .ref (b + 5), .ref (b + 6), .ref (b + 7)])) b hl e' w' := by
  obtain ⟨h0, h1, h2, h3, h4, h5, h6, h7, h8⟩ := h
  exact ⟨xup_eq, xup_of (by omega) h1, xup_of (by omega) h2, xup_of (by omega) h3, xup_of (by omega) h4, xup_of (by omega) h5, xup_of (by omega) h6, xup_of (by omega) h7, h8⟩
theorem HallW.to {G : xHp} {b : Nat} {hl : xHl} (h : HallW G b hl (nI (hl 0 0)) (nI (hl 0 1))) : HallAt G b hl := h
theorem HallAt.wide {G : xHp} {b : Nat} {hl : xHl} (h : HallAt G b hl) : HallW G b hl (nI (hl 0 0)) (nI (hl 0 1)) := h
/-- the two ends told -/
theorem HallW.ends {G : xHp} {b : Nat} {hl : xHl} {u v : Nat} (h : HallW G b hl (nI u) (nI v)) (hu : u < 1000000) (hv : v < 1000000) : HallW G b (set2 (set2 hl 0 0 u) 0 1 v) (nI u) (nI v) := by
  obtain ⟨h0, h1, h2, h3, h4, h5, h6, h7, h8⟩ := h
  have e : ∀ k, k ≠ 0 → set2 (set2 hl 0 0 u) 0 1 v k = hl k := fun k hk => by rw [set2_off _ _ _ hk, set2_off _ _ _ hk]
  refine ⟨?_, ?_, ?_, ?_, ?_, ?_, ?_, ?_, set2_lt (set2_lt h8 hu) hv⟩
  · simpa [set2] using h0
  · rw [e 1 (by decide)]; exact h1
  · rw [e 2 (by decide)]; exact h2
  · rw [e 3 (by decide)]; exact h3
  · rw [e 4 (by decide)]; exact h4
  · rw [e 5 (by decide)]; exact h5
  · rw [e 6 (by decide)]; exact h6
  · rw [e 7 (by decide)]; exact h7
theorem RdAt.cell {G : xHp} {b tx n : Nat} {tp : Nat → Nat} {f p : Nat} (h : RdAt G b tx n tp f p) : ∃ v2 v3 v4 v5 v6 : Int32, G b = some (eO 7 [.ref tx, .int (nI n), .int v2, .int v3, .int v4, .int v5, .int v6, .int (nI f)]) := by
  rcases h.2.2.2.2 with ⟨q1, q⟩ | ⟨-, -, pl, sg, nm, q⟩
  · subst q1; exact ⟨_, _, _, _, _, q⟩
  · exact ⟨_, _, _, _, _, q⟩
def nmN (tp : Nat → Nat) (n p : Nat) : Nat := thN (nmA tp n (skP tp n p))
theorem tn_ok {tp : Nat → Nat} {n f p p' a : Nat} {hi v : Int32} (h : tnP tp n f p (nI a) hi = (0, p')) (hv : f = 0 → v = nmA tp n (skP tp n p)) (ha : a < 2 ^ 31) : f = 0 ∧ v = nI (nmN tp n p) ∧ a ≤ nmN tp n p ∧ nmN tp n p < 2 ^ 31 ∧ ¬ hi < nI (nmN tp n p) ∧ p' = atA tp n (skP tp n p) ∧ kdA tp n (skP tp n p) = 2 := by
  unfold tnP at h
  by_cases hf : f = 0
  · rw [if_neg (fun q => q hf)] at h
    subst hf
    by_cases hk : kdA tp n (skP tp n p) = 2
    · rw [if_neg (fun q => q hk)] at h
      by_cases hr : nmA tp n (skP tp n p) < nI a ∨ hi < nmA tp n (skP tp n p)
      · rw [if_pos hr] at h
        exact absurd (congrArg Prod.fst h) (by simp [flP])
      · rw [if_neg hr] at h
        have h0 : ¬ nmA tp n (skP tp n p) < 0 := fun q => hr (Or.inl (Int32.lt_of_lt_of_le q (nI_pos' ha)))
        obtain ⟨k, hk1, hk2⟩ := nI_of h0
        have e : nmN tp n p = k := by unfold nmN; rw [hk2, thN_nI hk1]
        rw [e]
        rw [hk2] at hr
        refine ⟨rfl, (hv rfl).trans hk2, ?_, hk1, fun q => hr (Or.inr q), (congrArg Prod.snd h).symm, hk⟩
        exact Nat.not_lt.mp (fun q => hr (Or.inl (nI_lt q ha)))
    · rw [if_pos hk] at h
      exact absurd (congrArg Prod.fst h) (by simp [flP])
  · rw [if_pos hf] at h
    exact absurd (congrArg Prod.fst h) hf
theorem hi_m1 {m k : Nat} (h : ¬ nI m - nI 1 < nI k) (hm : m < 2 ^ 31) (hk : k < 2 ^ 31) : k < m := by
  cases m with
  | zero =>
    refine absurd ?_ h
    have : (nI 0 - nI 1 : Int32) < 0 := by decide
    exact Int32.lt_of_lt_of_le this (nI_pos' hk)
  | succ m =>
    rw [pk_sub (by omega)] at h
    exact Nat.lt_of_not_le (fun q => h (nI_lt (by omega) hk))
theorem hi_c {c k : Nat} (h : ¬ nI c < nI k) (hc : c < 2 ^ 31) (hk : k < 2 ^ 31) : k ≤ c := Nat.not_lt.mp (fun q => h (nI_lt q hk))
theorem wiF_cnt (tk : Nat → Nat) (L : Nat) : ∀ (l : List Nat) (w i : Nat) (s : Bool) (k : Nat), wiF tk L l w i s = some k → k ≤ w + l.count 32
  | [], w, i, s, k, h => by
    simp only [wiF] at h
    split at h
    · simp at h; omega
    · simp at h
  | c :: cs, w, i, s, k, h => by
    simp only [wiF] at h
    by_cases e : c = 32
    · subst e
      rw [if_pos rfl] at h
      rw [List.count_cons_self]
      split at h
      · simp at h; omega
      · have := wiF_cnt tk L cs _ _ _ k h; omega
    · rw [if_neg e] at h
      have := wiF_cnt tk L cs _ _ _ k h
      have := List.count_le_count_cons (a := 32) (b := c) (l := cs)
      omega
theorem wiO_cnt {tp : Nat → Nat} {n f p : Nat} {ws : List Nat} {k : Nat} (h : wiO tp n f p ws = some k) : f = 0 ∧ kdA tp n (skP tp n p) = 1 ∧ k ≤ ws.count 32 := by
  unfold wiO at h
  split at h
  · rename_i q
    have := wiF_cnt _ _ _ _ _ _ _ h
    exact ⟨q.1, q.2, by omega⟩
  · simp at h
theorem wl0_cnt : (wl 0).count 32 = 4 := by decide +kernel
theorem wl6_cnt : (wl 6).count 32 = 11 := by decide +kernel
def tooM (hl : xHl) (w bf : Nat) : Bool := decide (40 ≤ bf ∨ ¬ (w = 0 ↔ bf = 0) ∨ (w = 1 ∧ 4 ≤ hl 0 2) ∨ (w = 2 ∧ 4 ≤ hl 0 3) ∨ (w = 4 ∧ 7 ≤ hl 0 4))
def rhaP (tp : Nat → Nat) (n p : Nat) (hl : xHl) : Nat × Nat × xHl :=
  let s1 := tnP tp n 0 p (nI 1) (nI 300)
  let s2 := tnP tp n s1.1 s1.2 (nI 1) (nI 300)
  (s2.1, s2.2, set2 (set2 hl 0 0 (nmN tp n p)) 0 1 (nmN tp n s1.2))
def rsoP (tp : Nat → Nat) (n p : Nat) (hl : xHl) : Nat × Nat × xHl :=
  let s1 := tnP tp n 0 p (nI 0) (nI 9)
  let s2 := tnP tp n s1.1 s1.2 (nI 0) (nI 9)
  (s2.1, s2.2, set2 (set2 (set2 hl 1 (hl 0 2) (nmN tp n p)) 2 (hl 0 2) (nmN tp n s1.2)) 0 2 (hl 0 2 + 1))
def rskP (tp : Nat → Nat) (n p : Nat) (hl : xHl) : Nat × Nat × xHl :=
  let s1 := tnP tp n 0 p (nI 0) (nI (hl 0 3) - nI 1)
  let s2 := tnP tp n s1.1 s1.2 (nI 0) (nI (hl 0 2) - nI 1)
  let s3 := tnP tp n s2.1 s2.2 (nI 1) (nI 60)
  (s3.1, s3.2, set2 hl 3 (nmN tp n p * 4 + nmN tp n s1.2) (nmN tp n s2.2))
def rthP (tp : Nat → Nat) (n p : Nat) (hl : xHl) : Nat × Nat × xHl :=
  let s1 := tnP tp n 0 p (nI 0) (nI (hl 0 2) - nI 1)
  let s2 := tnP tp n s1.1 s1.2 (nI 0) (nI 299)
  let s3 := tnP tp n s2.1 s2.2 (nI 1) (nI 30)
  let s4 := tnP tp n s3.1 s3.2 (nI 0) (nI 1)
  (s4.1, s4.2, set2 (set2 (set2 (set2 (set2 hl 4 (hl 0 4) (nmN tp n p)) 5 (hl 0 4) (nmN tp n s1.2)) 6 (hl 0 4) (nmN tp n s2.2)) 7 (hl 0 4) (nmN tp n s3.2)) 0 4 (hl 0 4 + 1))
def clP (tp : Nat → Nat) (n f p : Nat) (hl : xHl) (bf : Nat) : Nat × Nat × xHl := match wiO tp n f p (wl 0) with
  | none => (flP tp n f p 0, p, hl)
  | some w => if tooM hl w bf = true then (flP tp n f p 4, p, hl)
    else if w = 0 then rhaP tp n (atA tp n (skP tp n p)) hl
    else if w = 1 then rsoP tp n (atA tp n (skP tp n p)) hl
    else if w = 2 then (0, atA tp n (skP tp n p), set2 hl 0 3 (hl 0 3 + 1))
    else if w = 3 then rskP tp n (atA tp n (skP tp n p)) hl
    else rthP tp n (atA tp n (skP tp n p)) hl
def hrL (tp : Nat → Nat) (n : Nat) : Nat → Nat → Nat × Nat × xHl → Nat × Nat × xHl
  | 0, _, s => s
  | k + 1, bf, s => if isS tp n s.1 s.2.1 59 = true then hrL tp n k (bf + 1) (clP tp n s.1 (atA tp n (skP tp n s.2.1)) s.2.2 bf) else s
def hrP (tp : Nat → Nat) (n : Nat) (hl : xHl) : Nat × Nat × xHl := hrL tp n 40 1 (clP tp n 0 0 (hlClr hl) 0)
def hallP (tp : Nat → Nat) (n : Nat) (hl : xHl) : Nat × xHl := (eeP tp n (hrP tp n hl).1 (hrP tp n hl).2.1, (hrP tp n hl).2.2)
def HRd (G0 G : xHp) (b tx n : Nat) (tp : Nat → Nat) (f p : Nat) (hl : xHl) (e w : Int32) : Prop := RdAt G (b + 9) tx n tp f p ∧ HallW G (b + 1) hl e w ∧ G b = some (eO 4 [.ref (b + 9), .ref (b + 1)]) ∧ (∀ a, ¬ (b ≤ a ∧ a < b + 10) → G a = G0 a) ∧ tx < b
def HRp (G0 G : xHp) (b tx n : Nat) (tp : Nat → Nat) (s : Nat × Nat × xHl) : Prop := (s.1 = 0 ∧ HRd G0 G b tx n tp 0 s.2.1 s.2.2 (nI (s.2.2 0 0)) (nI (s.2.2 0 1))) ∨ (s.1 ≠ 0 ∧ ∃ hl e w, (∀ j, hl 1 j ≤ 9) ∧ HRd G0 G b tx n tp s.1 s.2.1 hl e w)
section HRL
variable {K : xG} {h b tx n : Nat} {G0 G : xHp} {tp : Nat → Nat} {f p : Nat} {hl : xHl} {e w : Int32}
theorem HRd.rd {G' : xHp} {f' p' : Nat} (hW : HRd G0 G b tx n tp f p hl e w) (h1 : RdAt G' (b + 9) tx n tp f' p') (h2 : Fr G G' (b + 9) 1) : HRd G0 G' b tx n tp f' p' hl e w := by
  obtain ⟨w1, w2, w3, w4, w5⟩ := hW
  exact ⟨h1, w2.fr (fun a h3 h4 => h2 a (by omega)), (h2 b (by omega)).trans w3, fun a ha => (h2 a (by omega)).trans (w4 a ha), w5⟩
theorem HRd.tn {lo hi : Int32} (hW : HRd G0 G b tx n tp f p hl e w) : xCall K mX7_takeNumber 1 0 0 [.ref (b + 9), .int lo, .int hi] h G (xEx (fun q : Int32 × xHp => (f = 0 → q.1 = nmA tp n (skP tp n p)) ∧ HRd G0 q.2 b tx n tp (tnP tp n f p lo hi).1 (tnP tp n f p lo hi).2 hl e w) (fun q => some (.int q.1)) (fun _ => h) (fun q => q.2)) := by
  refine x_callpost (fun v h' G' hq => ?_) (Rd_takeNumber hW.1 (by have := hW.2.2.2.2; omega))
  obtain ⟨q, ⟨q1, q2, q3⟩, e1, e2, e3⟩ := hq
  exact ⟨q, ⟨q1, hW.rd q2 q3⟩, e1, e2, e3⟩
theorem HRd.nx (hW : HRd G0 G b tx n tp 0 p hl e w) : xCall K mX7_next 0 0 0 [.ref (b + 9)] h G (xEx (fun G' => HRd G0 G' b tx n tp 0 (atA tp n (skP tp n p)) hl e w) (fun _ => none) (fun _ => h) (fun G' => G')) := by
  refine x_callpost (fun v h' G' hq => ?_) (Rd_next hW.1 (by have := hW.2.2.2.2; omega))
  obtain ⟨q, ⟨q1, q2⟩, e1, e2, e3⟩ := hq
  exact ⟨q, hW.rd q1 q2, e1, e2, e3⟩
theorem HRd.fl {y : Nat} (hW : HRd G0 G b tx n tp f p hl e w) (hy : y < 8) : xCall K mX7_fail 0 0 0 [.ref (b + 9), .int (nI y)] h G (xEx (fun G' => HRd G0 G' b tx n tp (flP tp n f p y) p hl e w) (fun _ => none) (fun _ => h) (fun G' => G')) := by
  refine x_callpost (fun v h' G' hq => ?_) (Rd_fail hW.1 (by have := hW.2.2.2.2; omega) hy)
  obtain ⟨q, ⟨q1, q2⟩, e1, e2, e3⟩ := hq
  exact ⟨q, hW.rd q1 q2, e1, e2, e3⟩
theorem HRd.ee (hW : HRd G0 G b tx n tp f p hl e w) : xCall K mX7_expectEnd 1 0 0 [.ref (b + 9)] h G (xEx (fun G' => HRd G0 G' b tx n tp (eeP tp n f p) p hl e w) (fun _ => none) (fun _ => h) (fun G' => G')) := by
  refine x_callpost (fun v h' G' hq => ?_) (Rd_expectEnd hW.1 (by have := hW.2.2.2.2; omega))
  obtain ⟨q, ⟨q1, q2⟩, e1, e2, e3⟩ := hq
  exact ⟨q, hW.rd q1 q2, e1, e2, e3⟩
theorem HRd.hq {hl' : xHl} {m : xM} {d : Nat} {As : List Value} (hW : HRd G0 G b tx n tp f p hl e w) (hc : xCall K m d 0 0 As h G (hallQ G h (b + 1) hl')) : xCall K m d 0 0 As h G (xEx (fun G' => HRd G0 G' b tx n tp f p hl' (nI (hl' 0 0)) (nI (hl' 0 1))) (fun _ => none) (fun _ => h) (fun G' => G')) := by
  refine x_callpost (fun v h' G' hq => ?_) hc
  obtain ⟨G1, ⟨h1, h2⟩, e1, e2, e3⟩ := hq
  obtain ⟨w1, w2, w3, w4, w5⟩ := hW
  exact ⟨G1, ⟨w1.fr (h2 _ (by omega)) (h2 _ (by omega)), h1.wide, (h2 _ (by omega)).trans w3, fun a ha => (h2 a (by omega)).trans (w4 a ha), w5⟩, e1, e2, e3⟩
theorem HRd.ew (hW : HRd G0 G b tx n tp f p hl e w) (e' w' : Int32) : HRd G0 (xup G (b + 1) (eO 3 [.int e', .int w', .int (nI (hl 0 2)), .int (nI (hl 0 3)), .int (nI (hl 0 4)), .ref (b + 1 + 1), .ref (b + 1 + 2), .ref (b + 1 + 3), .ref (b + 1 + 4), .ref (b + 1 + 5), .ref (b + 1 + 6), .ref (b + 1 + 7)])) b tx n tp f p hl e' w' := by
  obtain ⟨w1, w2, w3, w4, w5⟩ := hW
  exact ⟨w1.fr (xup_ne (by omega)) (xup_ne (by omega)), w2.ew e' w', xup_of (by omega) w3, fun a ha => by rw [xup_ne (by omega)]; exact w4 a ha, w5⟩
end HRL
theorem HRd.ends {G0 G : xHp} {b tx n : Nat} {tp : Nat → Nat} {f p u v : Nat} {hl : xHl} (hW : HRd G0 G b tx n tp f p hl (nI u) (nI v)) (hu : u < 1000000) (hv : v < 1000000) : HRd G0 G b tx n tp f p (set2 (set2 hl 0 0 u) 0 1 v) (nI (set2 (set2 hl 0 0 u) 0 1 v 0 0)) (nI (set2 (set2 hl 0 0 u) 0 1 v 0 1)) := by
  obtain ⟨w1, w2, w3, w4, w5⟩ := hW
  refine ⟨w1, ?_, w3, w4, w5⟩
  have e0 : set2 (set2 hl 0 0 u) 0 1 v 0 0 = u := by simp [set2]
  have e1 : set2 (set2 hl 0 0 u) 0 1 v 0 1 = v := by simp [set2]
  rw [e0, e1]
  exact w2.ends hu hv
def CntOk (hl : xHl) : Prop := hl 0 2 ≤ 4 ∧ hl 0 3 ≤ 4 ∧ hl 0 4 ≤ 7
theorem clP_cnt {tp : Nat → Nat} {n f p : Nat} {hl : xHl} {bf : Nat} (h : CntOk hl) : CntOk (clP tp n f p hl bf).2.2 := by
  obtain ⟨h1, h2, h3⟩ := h
  unfold clP
  split
  · exact ⟨h1, h2, h3⟩
  · rename_i w hw
    have hw4 := (wiO_cnt hw).2.2
    rw [wl0_cnt] at hw4
    split
    · exact ⟨h1, h2, h3⟩
    · rename_i ht
      have ht' := of_decide_eq_false (by simpa using ht : tooM hl w bf = false)
      split
      · simp only [rhaP, CntOk, set2]; simp; omega
      · split
        · simp only [rsoP, CntOk, set2]; simp; omega
        · split
          · simp only [CntOk, set2]; simp; omega
          · split
            · simp only [rskP, CntOk, set2]; simp; omega
            · simp only [rthP, CntOk, set2]; simp; omega
def HRend (G0 G : xHp) (b tx : Nat) (s : Nat × xHl) : Prop := ((s.1 = 0 ∧ HallAt G (b + 1) s.2) ∨ (s.1 ≠ 0 ∧ ∃ hl e w, (∀ j, hl 1 j ≤ 9) ∧ HallW G (b + 1) hl e w)) ∧ (∃ a1 a2 a3 a4 a5 a6 a7 : Int32, G (b + 9) = some (eO 7 [.ref tx, .int a1, .int a2, .int a3, .int a4, .int a5, .int a6, .int a7])) ∧ G b = some (eO 4 [.ref (b + 9), .ref (b + 1)]) ∧ (∀ a, ¬ (b ≤ a ∧ a < b + 10) → G a = G0 a) ∧ s.1 < 10000
theorem ee_bad {tp : Nat → Nat} {n f p : Nat} (h : f ≠ 0) : eeP tp n f p = f := by
  unfold eeP; rw [if_neg (fun q => h q.1)]; exact if_neg h
theorem HRd.fin {G0 G : xHp} {b tx n : Nat} {tp : Nat → Nat} {f p : Nat} {hl hk : xHl} {e w : Int32} (hW : HRd G0 G b tx n tp f p hl e w) (h9 : ∀ j, hl 1 j ≤ 9) (h : f = 0 → hk = hl ∧ e = nI (hl 0 0) ∧ w = nI (hl 0 1)) : HRend G0 G b tx (f, hk) := by
  obtain ⟨w1, w2, w3, w4, w5⟩ := hW
  obtain ⟨v2, v3, v4, v5, v6, hc⟩ := w1.cell
  refine ⟨?_, ⟨_, _, _, _, _, _, _, hc⟩, w3, w4, w1.f_lt⟩
  by_cases hf : f = 0
  · obtain ⟨h1, h2, h3⟩ := h hf
    subst h1; subst h2; subst h3
    exact Or.inl ⟨hf, w2⟩
  · exact Or.inr ⟨hf, hl, e, w, h9, w2⟩
theorem flP_ne {tp : Nat → Nat} {n p w : Nat} : flP tp n 0 p w ≠ 0 := by simp [flP]
theorem hrL_s {tp : Nat → Nat} {n k bf p : Nat} {hl : xHl} {s : Nat × Nat × xHl} (h : isS tp n 0 p 59 = true) (hs : clP tp n 0 (atA tp n (skP tp n p)) hl bf = s) : hrL tp n (k + 1) bf (0, p, hl) = hrL tp n k (bf + 1) s := by
  show (if isS tp n 0 p 59 = true then hrL tp n k (bf + 1) (clP tp n 0 (atA tp n (skP tp n p)) hl bf) else _) = _
  rw [if_pos h, hs]
theorem tn_f {tp : Nat → Nat} {n f p : Nat} {lo hi : Int32} (h : (tnP tp n f p lo hi).1 = 0) : f = 0 := by
  unfold tnP at h
  by_cases e : f = 0
  · exact e
  · rw [if_pos e] at h; exact absurd h e
theorem clP_l9 {tp : Nat → Nat} {n f p : Nat} {hl : xHl} {bf : Nat} (h : ∀ j, hl 1 j ≤ 9) (h0 : (clP tp n f p hl bf).1 = 0) : ∀ j, (clP tp n f p hl bf).2.2 1 j ≤ 9 := by
  unfold clP at h0 ⊢
  rcases hw : wiO tp n f p (wl 0) with _ | w
  · exact h
  · rw [hw] at h0
    simp only at h0 ⊢
    by_cases ht : tooM hl w bf = true
    · rw [if_pos ht]; exact h
    · rw [if_neg ht] at h0 ⊢
      split at h0
      · rename_i h1; rw [if_pos h1]; intro j; simp only [rhaP, set2]; simpa using h j
      · rename_i h1; rw [if_neg h1]
        split at h0
        · rename_i h2; rw [if_pos h2]
          intro j
          simp only [rsoP] at h0
          have e1 := tn_f h0
          rcases hs1 : tnP tp n 0 (atA tp n (skP tp n p)) (nI 0) (nI 9) with ⟨f1, p1⟩
          rw [hs1] at e1
          simp only at e1
          subst e1
          obtain ⟨-, -, -, k1, k2, -, -⟩ := tn_ok hs1 (v := nmA tp n (skP tp n (atA tp n (skP tp n p)))) (fun _ => rfl) (by decide)
          have k3 := hi_c k2 (by decide) k1
          have := h j
          simp only [rsoP, set2]
          simp
          split
          · exact k3
          · exact h j
        · rename_i h2; rw [if_neg h2]
          split at h0
          · rename_i h3; rw [if_pos h3]; intro j; simp only [set2]; simpa using h j
          · rename_i h3; rw [if_neg h3]
            split at h0
            · rename_i h4; rw [if_pos h4]; intro j; simp only [rskP, set2]; simpa using h j
            · rename_i h4; rw [if_neg h4]; intro j; simp only [rthP, set2]; simpa using h j
