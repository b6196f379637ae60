/-! ===== terms and sums: how the loops go ===== -/
theorem sgV_i {tp : Nat → Nat} {n p c : Nat} (h : p < n) (hc : tp p = c) : sgV tp n p = nI c := by unfold sgV; rw [if_pos h, hc]
theorem stp_f {tp : Nat → Nat} {n : Nat} {s : xPS} (h : ¬ s.1 = 0) : stpP tp n s = none := if_neg (fun q => h q.1)
theorem trmL_f {tp : Nat → Nat} {n j : Nat} {s : xPS} (h : ¬ s.1 = 0) : trmL tp n (j + 1) s = s := by simp only [trmL, stp_f h]
theorem trmL_f' {tp : Nat → Nat} {n : Nat} {s : xPS} (h : ¬ s.1 = 0) : ∀ j, trmL tp n j s = s
  | 0 => rfl
  | j + 1 => trmL_f h
theorem smL_f {tp : Nat → Nat} {n j : Nat} {s : xPS} (h : ¬ s.1 = 0) : smL tp n (j + 1) s = s := by simp only [smL, stp_f h]
theorem trmL_o {tp : Nat → Nat} {n j p : Nat} {s : xPS} (hlt : ∀ j, tp j < 256) (hp : p = skP tp n s.2.1) (h1 : ¬ (p < n ∧ tp p = 42)) (h2 : ¬ (p < n ∧ tp p = 47)) (h3 : ¬ (p < n ∧ tp p = 37)) : trmL tp n (j + 1) s = s := by
  rcases hs : stpP tp n s with _ | c
  · simp only [trmL, hs]
  · have := stp_n hlt hp hs
    simp only [trmL, hs]
    rw [if_neg (by omega)]
theorem smL_o {tp : Nat → Nat} {n j p : Nat} {s : xPS} (hlt : ∀ j, tp j < 256) (hp : p = skP tp n s.2.1) (h1 : ¬ (p < n ∧ tp p = 43)) (h2 : ¬ (p < n ∧ tp p = 45)) : smL tp n (j + 1) s = s := by
  rcases hs : stpP tp n s with _ | c
  · simp only [smL, hs]
  · have := stp_n hlt hp hs
    simp only [smL, hs]
    rw [if_neg (by omega)]
theorem trmL_s {tp : Nat → Nat} {n j c : Nat} {s : xPS} (h : stpP tp n s = some c) (h1 : 4 ≤ c) (h2 : c ≤ 6) : trmL tp n (j + 1) s = trmL tp n j (putP (valP tp n (nextP tp n s)) c 0) := by
  simp only [trmL, h]; rw [if_pos ⟨h1, h2⟩]
theorem smL_s {tp : Nat → Nat} {n j c : Nat} {s : xPS} (h : stpP tp n s = some c) (h1 : c = 2 ∨ c = 3) : smL tp n (j + 1) s = smL tp n j (putP (trmP tp n (nextP tp n s)) c 0) := by
  simp only [smL, h]; rw [if_pos h1]
theorem Mo.trm {tp : Nat → Nat} {n : Nat} : ∀ {j : Nat} {s : xPS}, Mo n s (trmL tp n j s)
  | 0, s => Mo.rf
  | j + 1, s => by
    simp only [trmL]
    split
    · split
      · exact ((Mo.next.tr Mo.val).tr Mo.put).tr Mo.trm
      · exact Mo.rf
    · exact Mo.rf
theorem Mo.trmP {tp : Nat → Nat} {n : Nat} {s : xPS} : Mo n s (trmP tp n s) := Mo.val.tr Mo.trm
theorem Mo.sm {tp : Nat → Nat} {n : Nat} : ∀ {j : Nat} {s : xPS}, Mo n s (smL tp n j s)
  | 0, s => Mo.rf
  | j + 1, s => by
    simp only [smL]
    split
    · split
      · exact ((Mo.next.tr Mo.trmP).tr Mo.put).tr Mo.sm
      · exact Mo.rf
    · exact Mo.rf
theorem Mo.sumP {tp : Nat → Nat} {n : Nat} {s : xPS} : Mo n s (sumP tp n s) := Mo.trmP.tr Mo.sm
theorem trm_fu {tp : Nat → Nat} {n j p k : Nat} {s : xPS} (y2 : (nextP tp n s).2.1 = p + 1) (hj : n - s.2.1 ≤ j + 1) (hp : p = skP tp n s.2.1) (hb : s.2.1 ≤ n) (h0 : (putP (valP tp n (nextP tp n s)) k 0).1 = 0) : n - (putP (valP tp n (nextP tp n s)) k 0).2.1 ≤ j := by
  have h1 := (Mo.val (tp := tp) (n := n) (s := nextP tp n s)).tr (Mo.put (k := k) (op := 0)) h0
  have h2 := sk_le (tp := tp) hb
  omega
theorem sum_fu {tp : Nat → Nat} {n j p k : Nat} {s : xPS} (y2 : (nextP tp n s).2.1 = p + 1) (hj : n - s.2.1 ≤ j + 1) (hp : p = skP tp n s.2.1) (hb : s.2.1 ≤ n) (h0 : (putP (trmP tp n (nextP tp n s)) k 0).1 = 0) : n - (putP (trmP tp n (nextP tp n s)) k 0).2.1 ≤ j := by
  have h1 := (Mo.trmP (tp := tp) (n := n) (s := nextP tp n s)).tr (Mo.put (k := k) (op := 0)) h0
  have h2 := sk_le (tp := tp) hb
  omega
section PRM
variable {K : xG} {h y : Nat} {G0 G : xHp} {hl : xHl} {r : xRw} {sc : Nat × Nat × Int32} {A0 : Nat → Nat → Int32} {F : Nat → Int32} {wa sa : Nat → Int64} {tn : Nat} {tp : Nat → Nat} {sl b de : Nat} {os : List Nat} {s s' : xPS}
theorem PR.cg (hR : PR G0 G y hl r sc A0 F wa sa tn tp sl b de os s) (h1 : s'.1 = s.1) (h2 : s.1 = 0 → s' = s) : PR G0 G y hl r sc A0 F wa sa tn tp sl b de os s' := by
  by_cases e : s.1 = 0
  · rw [h2 e]; exact hR
  · obtain ⟨hf9, A, p, co, en, dd, op, hM, hK, hp, hc, hz⟩ := hR
    exact ⟨by omega, A, p, co, en, dd, op, by rw [h1]; exact hM, hK, hp, hc, fun q => absurd (h1.symm.trans q) e⟩
theorem PRs.cg (hR : PRs G0 G y hl r sc A0 F wa sa tn tp sl b de os s) (h1 : s'.1 = s.1) (h2 : s.1 = 0 → s' = s) : PRs G0 G y hl r sc A0 F wa sa tn tp sl b de os s' := by
  by_cases e : s.1 = 0
  · rw [h2 e]; exact hR
  · obtain ⟨hf9, A, p, co, en, dd, op, hM, hK, hp, hc, hz⟩ := hR
    exact ⟨by omega, A, p, co, en, dd, op, by rw [h1]; exact hM, hK, hp, hc, fun q => absurd (h1.symm.trans q) e⟩
theorem PR_failsX {A : Nat → Nat → Int32} {p co en dd op c : Nat} (hM : MW G0 G y hl r sc A (pF (upd F 36 (nI 12)) tn p s.1 sl en dd co op) wa sa) (htn : tn ≤ 400) (hf9 : s.1 < 1000000) (hK : KpA A0 A sl) (hp : p ≤ tn + 2) (hc : co ≤ 60 + b) (hz : s.1 = 0 → p = skP tp tn s.2.1) (hc8 : c < 8) : xCall K mX12_fails 0 0 0 [.ref y, .int (nI c), .int (nI p)] h G (prQ G0 h y hl r sc A0 F wa sa tn tp sl b de os (failP tp tn s c)) := by
  refine x_callpost (fun v h' G' hq => ?_) (Md_fails (a := c) (b := p) hM hf9)
  obtain ⟨G8, hM8, e1, e2, e3⟩ := hq
  have e4 : flt s.1 c p = (failP tp tn s c).1 := by
    show flt s.1 c p = flP tp tn s.1 s.2.1 c
    unfold flt flP
    by_cases e : s.1 = 0
    · rw [if_pos e, if_pos e, hz e]
    · rw [if_neg e, if_neg e]
  refine ⟨G8, ⟨by rw [← e4]; exact flt_lt hf9 hc8 (by omega), A, p, co, en, dd, op, by rw [← e4]; exact hM8, hK, hp, hc, fun q => absurd q failP_ne⟩, e1, e2, e3⟩
end PRM
/-- one more is counted, or there were too many -/
def ctP (tp : Nat → Nat) (n : Nat) (s : xPS) : xPS := if s.1 = 0 ∧ s.2.2.1 < 60 then cntP s else failP tp n s 3
theorem ct_f {tp : Nat → Nat} {n co p : Nat} {s : xPS} (hz : s.1 = 0 → p = skP tp n s.2.1 ∧ co = s.2.2.1 ∧ co ≤ 60) : (ctP tp n s).1 = cfF s.1 co p := by
  unfold ctP cfF
  by_cases e : s.1 = 0
  · obtain ⟨z1, z2, z3⟩ := hz e
    by_cases e2 : s.2.2.1 < 60
    · rw [if_pos ⟨e, e2⟩, if_neg (by omega)]; rfl
    · rw [if_neg (fun q => e2 q.2), if_pos (by omega)]
      show flP tp n s.1 s.2.1 3 = flt s.1 3 p
      unfold flP flt
      rw [if_pos e, if_pos e, z1]
  · rw [if_neg (fun q => e q.1), flt_f e, ite_self]
    exact flP_f e
theorem valP_ff {tp : Nat → Nat} {n : Nat} {s : xPS} (h : s.1 ≠ 0) : (valP tp n s).1 = s.1 := valP_f h
theorem trmP_ff {tp : Nat → Nat} {n : Nat} {s : xPS} (h : s.1 ≠ 0) : (trmP tp n s).1 = s.1 := by
  unfold trmP
  have h1 := valP_f (tp := tp) (n := n) h
  rw [trmL_f (by rw [h1]; exact h), h1]
theorem sumP_ff {tp : Nat → Nat} {n : Nat} {s : xPS} (h : s.1 ≠ 0) : (sumP tp n s).1 = s.1 := by
  unfold sumP
  have h1 := trmP_ff (tp := tp) (n := n) h
  rw [smL_f (by rw [h1]; exact h), h1]
