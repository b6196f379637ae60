/-! ===== the reference's reader against the class's: terms, sums ===== -/
/-- as PR, the blanks passed over -/
def PRs (G0 G : xHp) (y : Nat) (hl : xHl) (r : xRw) (sc : Nat × Nat × Int32) (A0 : Nat → Nat → Int32) (F : Nat → Int32) (wa sa : Nat → Int64) (tn : Nat) (tp : Nat → Nat) (sl b de : Nat) (os : List Nat) (s : xPS) : Prop := s.1 < 1000000 ∧ ∃ (A : Nat → Nat → Int32) (p co en dd op : Nat), MW G0 G y hl r sc A (pF (upd F 36 (nI 12)) tn p s.1 sl en dd co op) wa sa ∧ KpA A0 A sl ∧ p ≤ tn + 2 ∧ co ≤ 60 + b ∧ (s.1 = 0 → p ≤ tn ∧ p = skP tp tn s.2.1 ∧ co = s.2.2.1 ∧ co ≤ 60 ∧ en = (stE s.2.2.2).length ∧ dd = de ∧ op = os.length ∧ OsR (A 34) os ∧ EnR A sl (stE s.2.2.2))
abbrev prsQ (G0 : xHp) (h y : Nat) (hl : xHl) (r : xRw) (sc : Nat × Nat × Int32) (A0 : Nat → Nat → Int32) (F : Nat → Int32) (wa sa : Nat → Int64) (tn : Nat) (tp : Nat → Nat) (sl b de : Nat) (os : List Nat) (s : xPS) : xPost := xEx (fun G' => PRs G0 G' y hl r sc A0 F wa sa tn tp sl b de os s) (fun _ => none) (fun _ => h) (fun G' => G')
theorem sk_sk {tp : Nat → Nat} {n p : Nat} (h : p ≤ n) : skP tp n (skP tp n p) = skP tp n p := by
  by_cases e : skP tp n p < n
  · have h1 : blB tp (skP tp n p) = false := runF_end (k := n - p) (p := p) (by show skP tp n p < _; omega)
    obtain ⟨k, hk⟩ : ∃ k, n - skP tp n p = k + 1 := ⟨n - skP tp n p - 1, by omega⟩
    show runF (blB tp) (n - skP tp n p) (skP tp n p) = skP tp n p
    rw [hk]; exact runF_f h1
  · exact skP_o (by omega)
section PRL
variable {K : xG} {h y : Nat} {G0 G : xHp} {hl : xHl} {r : xRw} {sc : Nat × Nat × Int32} {A0 : Nat → Nat → Int32} {F : Nat → Int32} {wa sa : Nat → Int64} {tn : Nat} {tp : Nat → Nat} {sl b de : Nat} {os : List Nat} {s : xPS}
theorem PRs.to (hp0 : s.1 = 0 → s.2.1 ≤ tn) (hR : PRs G0 G y hl r sc A0 F wa sa tn tp sl b de os s) : PR G0 G y hl r sc A0 F wa sa tn tp sl b de os s := by
  obtain ⟨hf9, A, p, co, en, dd, op, hM, hK, hp, hc, hz⟩ := hR
  refine ⟨hf9, A, p, co, en, dd, op, hM, hK, hp, hc, fun q => ?_⟩
  obtain ⟨z1, z2, z3, z4, z5, z6, z7, z8, z9⟩ := hz q
  exact ⟨z1, by rw [z2, sk_sk (hp0 q)], z3, z4, z5, z6, z7, z8, z9⟩
theorem PR.wk {b' : Nat} (hR : PR G0 G y hl r sc A0 F wa sa tn tp sl b de os s) (hb : b ≤ b') : PR G0 G y hl r sc A0 F wa sa tn tp sl b' de os s := by
  obtain ⟨hf9, A, p, co, en, dd, op, hM, hK, hp, hc, hz⟩ := hR
  exact ⟨hf9, A, p, co, en, dd, op, hM, hK, hp, by omega, hz⟩
theorem PRs.wk {b' : Nat} (hR : PRs G0 G y hl r sc A0 F wa sa tn tp sl b de os s) (hb : b ≤ b') : PRs G0 G y hl r sc A0 F wa sa tn tp sl b' de os s := by
  obtain ⟨hf9, A, p, co, en, dd, op, hM, hK, hp, hc, hz⟩ := hR
  exact ⟨hf9, A, p, co, en, dd, op, hM, hK, hp, by omega, hz⟩
theorem PR.b0 {b' : Nat} (hR : PR G0 G y hl r sc A0 F wa sa tn tp sl b de os s) (h0 : s.1 = 0) : PR G0 G y hl r sc A0 F wa sa tn tp sl b' de os s := by
  obtain ⟨hf9, A, p, co, en, dd, op, hM, hK, hp, hc, hz⟩ := hR
  exact ⟨hf9, A, p, co, en, dd, op, hM, hK, hp, by have := (hz h0).2.2.2.1; omega, hz⟩
theorem PR_blanks (hH : PH A0 tp tn sl) (hR : PR G0 G y hl r sc A0 F wa sa tn tp sl b de os s) : xCall K mX12_blanks 1 0 0 [.ref y] h G (prsQ G0 h y hl r sc A0 F wa sa tn tp sl b de os s) := by
  obtain ⟨hT, hlt, htn, hs⟩ := hH
  obtain ⟨hf9, A, p, co, en, dd, op, hM, hK, hp, hc, hz⟩ := hR
  rw [← hK.1 27 (by decide) (by decide) (by decide)] at hT
  refine x_callpost (fun v h' G' hq => ?_) (Md_blanksA hT hlt htn hM (by omega))
  obtain ⟨G8, hM8, e1, e2, e3⟩ := hq
  have hs2 := runF_le (blB tp) (tn - p) p
  refine ⟨G8, ⟨hf9, A, _, _, _, _, _, hM8, hK, by unfold skP; omega, hc, fun q => ?_⟩, e1, e2, e3⟩
  obtain ⟨z1, z2, z3, z4, z5, z6, z7, z8, z9⟩ := hz q
  exact ⟨by unfold skP; omega, z2, z3, z4, z5, z6, z7, z8, z9⟩
theorem PR_entry {c : Nat} (hH : PH A0 tp tn sl) (hR : PR G0 G y hl r sc A0 F wa sa tn tp sl b de os s) (hL : s.1 = 0 → s.2.2.2.length < 300) (hc15 : c < 15) : xCall K mX12_entry 0 0 0 [.ref y, .int (nI (kR c)), .int (nI 0)] h G (prQ G0 h y hl r sc A0 F wa sa tn tp sl b de os (putP s c 0)) := by
  obtain ⟨hT, hlt, htn, hs⟩ := hH
  obtain ⟨hf9, A, p, co, en, dd, op, hM, hK, hp, hc, hz⟩ := hR
  have hen : s.1 = 0 → en < 300 := fun q => by
    have h1 := (hz q).2.2.2.2.1
    have h2 := stE_len s.2.2.2
    have h3 := hL q
    omega
  refine x_callpost (fun v h' G' hq => ?_) (Md_entry (a := kR c) (b := 0) hM hs hf9 hen)
  obtain ⟨G8, hM8, e1, e2, e3⟩ := hq
  obtain ⟨f1, f2, f3⟩ := putP_f (s := s) (k := c) (op := 0)
  refine ⟨G8, ⟨by rw [f1]; exact hf9, _, _, _, _, _, _, by rw [f1]; exact hM8, hK.ent, hp, hc, fun q => ?_⟩, e1, e2, e3⟩
  rw [f1] at q
  obtain ⟨z1, z2, z3, z4, z5, z6, z7, z8, z9⟩ := hz q
  have f4 := put_lt (s := s) (k := c) (v := 0) (by have := hL q; omega)
  have f5 : (c * 1048576 + 0) / 1048576 = c := by omega
  refine ⟨z1, by rw [f2]; exact z2, by rw [f3]; exact z3, z4, ?_, z6, z7, by rw [ent_34]; exact z8, ?_⟩
  · rw [f4, stE_put (by omega), List.length_append, q, z5]; rfl
  · rw [f4, stE_put (by omega), q, z5]
    have := z9.put (c * 1048576 + 0)
    rw [f5, show (c * 1048576 + 0) % 1048576 = 0 by omega] at this
    exact this
theorem PRs_entry {c : Nat} (hH : PH A0 tp tn sl) (hR : PRs G0 G y hl r sc A0 F wa sa tn tp sl b de os s) (hL : s.1 = 0 → s.2.2.2.length < 300) (hc15 : c < 15) : xCall K mX12_entry 0 0 0 [.ref y, .int (nI (kR c)), .int (nI 0)] h G (prsQ G0 h y hl r sc A0 F wa sa tn tp sl b de os (putP s c 0)) := by
  obtain ⟨hT, hlt, htn, hs⟩ := hH
  obtain ⟨hf9, A, p, co, en, dd, op, hM, hK, hp, hc, hz⟩ := hR
  have hen : s.1 = 0 → en < 300 := fun q => by
    have h1 := (hz q).2.2.2.2.1
    have h2 := stE_len s.2.2.2
    have h3 := hL q
    omega
  refine x_callpost (fun v h' G' hq => ?_) (Md_entry (a := kR c) (b := 0) hM hs hf9 hen)
  obtain ⟨G8, hM8, e1, e2, e3⟩ := hq
  obtain ⟨f1, f2, f3⟩ := putP_f (s := s) (k := c) (op := 0)
  refine ⟨G8, ⟨by rw [f1]; exact hf9, _, _, _, _, _, _, by rw [f1]; exact hM8, hK.ent, hp, hc, fun q => ?_⟩, e1, e2, e3⟩
  rw [f1] at q
  obtain ⟨z1, z2, z3, z4, z5, z6, z7, z8, z9⟩ := hz q
  have f4 := put_lt (s := s) (k := c) (v := 0) (by have := hL q; omega)
  have f5 : (c * 1048576 + 0) / 1048576 = c := by omega
  refine ⟨z1, by rw [f2]; exact z2, by rw [f3]; exact z3, z4, ?_, z6, z7, by rw [ent_34]; exact z8, ?_⟩
  · rw [f4, stE_put (by omega), List.length_append, q, z5]; rfl
  · rw [f4, stE_put (by omega), q, z5]
    have := z9.put (c * 1048576 + 0)
    rw [f5, show (c * 1048576 + 0) % 1048576 = 0 by omega] at this
    exact this
/-- the place stepped on over a sign -/
theorem PRs.step {G' : xHp} {A : Nat → Nat → Int32} {p co en dd op : Nat} {s' : xPS} (hM : MW G0 G' y hl r sc A (pF (upd F 36 (nI 12)) tn p s'.1 sl en dd co op) wa sa) (hf9 : s'.1 < 1000000) (hK : KpA A0 A sl) (hp : p ≤ tn + 2) (hc : co ≤ 60 + b) (hz : s'.1 = 0 → p ≤ tn ∧ p = s'.2.1 ∧ co = s'.2.2.1 ∧ co ≤ 60 ∧ en = (stE s'.2.2.2).length ∧ dd = de ∧ op = os.length ∧ OsR (A 34) os ∧ EnR A sl (stE s'.2.2.2)) : PR G0 G' y hl r sc A0 F wa sa tn tp sl b de os s' := by
  refine ⟨hf9, A, p, co, en, dd, op, hM, hK, hp, hc, fun q => ?_⟩
  obtain ⟨z1, z2, z3⟩ := hz q
  exact ⟨z1, by rw [z2], z3⟩
end PRL
def trmL (tp : Nat → Nat) (n : Nat) : Nat → xPS → xPS
  | 0, s => s
  | j + 1, s => match stpP tp n s with
    | some c => if 4 ≤ c ∧ c ≤ 6 then trmL tp n j (putP (valP tp n (nextP tp n s)) c 0) else s
    | none => s
def trmP (tp : Nat → Nat) (n : Nat) (s : xPS) : xPS := trmL tp n 400 (valP tp n s)
def smL (tp : Nat → Nat) (n : Nat) : Nat → xPS → xPS
  | 0, s => s
  | j + 1, s => match stpP tp n s with
    | some c => if c = 2 ∨ c = 3 then smL tp n j (putP (trmP tp n (nextP tp n s)) c 0) else s
    | none => s
def sumP (tp : Nat → Nat) (n : Nat) (s : xPS) : xPS := smL tp n 400 (trmP tp n s)
/-- room for steps: c is what must be left -/
def Hb (n c : Nat) (s : xPS) : Prop := s.1 = 0 → s.2.1 ≤ n ∧ s.2.2.1 ≤ 60 ∧ 3 * s.2.2.2.length + c ≤ 6 * s.2.2.1 + s.2.1 + 30
theorem Hb.len {n c : Nat} {s : xPS} (hn : n ≤ 400) (h : Hb n c s) : s.1 = 0 → s.2.2.2.length < 300 := fun q => by
  have := h q; omega
theorem Hb.wk {n c c' : Nat} {s : xPS} (h : Hb n c s) (hc : c' ≤ c) : Hb n c' s := fun q => by
  have := h q; exact ⟨this.1, this.2.1, by omega⟩
theorem Hb.put {n c k v : Nat} {s : xPS} (h : Hb n (c + 3) s) : Hb n c (putP s k v) := fun q => by
  obtain ⟨f1, f2, f3⟩ := putP_f (s := s) (k := k) (op := v)
  rw [f1] at q
  obtain ⟨h1, h2, h3⟩ := h q
  have h4 : (putP s k v).2.2.2.length ≤ s.2.2.2.length + 1 := by unfold putP; split <;> simp
  exact ⟨by omega, by omega, by omega⟩
theorem Hb.next {tp : Nat → Nat} {n c : Nat} {s : xPS} (h : Hb n c s) : Hb n c (nextP tp n s) := fun q => by
  obtain ⟨h1, h2, h3⟩ := h q
  have h4 := Mo.next (tp := tp) (n := n) (s := s) q
  exact ⟨h4.2.2 h1, h2, by have := h4.2.1; show 3 * s.2.2.2.length + c ≤ 6 * s.2.2.1 + (nextP tp n s).2.1 + 30; omega⟩
theorem Hb.val {tp : Nat → Nat} {n c : Nat} {s : xPS} (h : Hb n c s) : Hb n (c + 3) (valP tp n s) := by
  have key : ∀ k v, s.2.2.1 < 60 → Hb n (c + 3) (nextP tp n (putP (cntP s) k v)) := fun k v hlt => by
    refine Hb.next (Hb.put (s := cntP s) (fun q => ?_))
    obtain ⟨h1, h2, h3⟩ := h q
    exact ⟨h1, hlt, by show 3 * s.2.2.2.length + (c + 3 + 3) ≤ 6 * (s.2.2.1 + 1) + s.2.1 + 30; omega⟩
  unfold valP
  split
  · split
    · exact fun q => absurd q failP_ne
    · exact key _ _ (by omega)
  · split
    · exact fun q => absurd q failP_ne
    · split
      · exact fun q => absurd q failP_ne
      · split
        · exact fun q => absurd q failP_ne
        · exact key _ _ (by omega)
theorem Hb.trm {tp : Nat → Nat} {n c : Nat} : ∀ {j : Nat} {s : xPS}, Hb n (c + 3) s → Hb n (c + 3) (trmL tp n j s)
  | 0, s, h => h
  | j + 1, s, h => by
    simp only [trmL]
    split
    · split
      · exact Hb.trm (Hb.put (Hb.val (Hb.next h)))
      · exact h
    · exact h
theorem Hb.trmP {tp : Nat → Nat} {n c : Nat} {s : xPS} (h : Hb n c s) : Hb n (c + 3) (trmP tp n s) := Hb.trm (Hb.val h)
theorem Hb.sm {tp : Nat → Nat} {n c : Nat} : ∀ {j : Nat} {s : xPS}, Hb n (c + 3) s → Hb n (c + 3) (smL tp n j s)
  | 0, s, h => h
  | j + 1, s, h => by
    simp only [smL]
    split
    · split
      · exact Hb.sm (Hb.put (Hb.trmP (Hb.next h)))
      · exact h
    · exact h
theorem Hb.sumP {tp : Nat → Nat} {n c : Nat} {s : xPS} (h : Hb n c s) : Hb n (c + 3) (sumP tp n s) := Hb.sm (Hb.trmP h)
theorem sgV_c {tp : Nat → Nat} {n p c : Nat} (hc : c < 256) (hlt : ∀ j, tp j < 256) (h : sgV tp n p = nI c) : p < n ∧ tp p = c := by
  unfold sgV at h
  by_cases e : p < n
  · rw [if_pos e] at h
    exact ⟨e, (nI_eq (by have := hlt p; omega) (by omega)).mp h⟩
  · rw [if_neg e] at h
    exact absurd h.symm (nI_ne1 (by omega))
theorem sg_tok {tp : Nat → Nat} {n p c : Nat} (h : p < n) (hc : tp p = c) (h1 : c < 97 ∨ 122 < c) (h2 : c < 48 ∨ 57 < c) : kdA tp n p = 3 ∧ (c ≠ 60 → c ≠ 62 → sgA tp n p = c ∧ atA tp n p = p + 1) := by
  have a1 := isLw_f (tp := tp) (pl := p) (by omega)
  have a2 := isDg_f (tp := tp) (pl := p) (by omega)
  have a3 := kd_s h a1 a2
  refine ⟨a3, fun b1 b2 => ?_⟩
  have a4 : twA tp n p = false := decide_eq_false (fun q => by omega)
  rw [sg_s h a3, at_s h a1 a2, a4]
  exact ⟨hc, rfl⟩
/-- the step at hand, by the sign that stands there -/
theorem stp_y {tp : Nat → Nat} {n p c k : Nat} {s : xPS} (h0 : s.1 = 0) (hp : p = skP tp n s.2.1) (hlt : ∀ j, tp j < 256) (hc : c < 48) (hk : sgK c = some k) (h : sgV tp n p = nI c) : stpP tp n s = some k ∧ (nextP tp n s).2.1 = p + 1 ∧ p < n := by
  obtain ⟨h1, h2⟩ := sgV_c (by omega) hlt h
  obtain ⟨h3, h4⟩ := sg_tok h1 h2 (by omega) (by omega)
  obtain ⟨h5, h6⟩ := h4 (by omega) (by omega)
  refine ⟨?_, ?_, h1⟩
  · unfold stpP
    rw [← hp, if_pos ⟨h0, h3⟩, h5]; exact hk
  · show atA tp n (skP tp n s.2.1) = _
    rw [← hp]; exact h6
theorem stp_n {tp : Nat → Nat} {n p k : Nat} {s : xPS} (hlt : ∀ j, tp j < 256) (hp : p = skP tp n s.2.1) (h : stpP tp n s = some k) : s.1 = 0 ∧ p < n ∧ ((k = 4 ∧ tp p = 42) ∨ (k = 5 ∧ tp p = 47) ∨ (k = 6 ∧ tp p = 37) ∨ (k = 2 ∧ tp p = 43) ∨ (k = 3 ∧ tp p = 45) ∨ (7 ≤ k ∧ (tp p = 60 ∨ tp p = 61 ∨ tp p = 62))) := by
  obtain ⟨h1, h2, h3, h4⟩ := stp_lt h
  unfold stpP at h
  rw [if_pos ⟨h1, h2⟩, ← hp] at h
  rw [← hp] at h2
  have h5 : p < n := Nat.lt_of_not_le (fun q => by rw [kd_end q] at h2; omega)
  have h6 := hlt p
  refine ⟨h1, h5, ?_⟩
  rw [sg_s h5 h2] at h
  by_cases e : twA tp n p = true
  · have e2 := of_decide_eq_true e
    rw [if_pos e] at h
    unfold sgK at h
    repeat' split at h
    all_goals (first | (simp at h; omega) | (simp at h))
  · rw [if_neg e] at h
    unfold sgK at h
    repeat' split at h
    all_goals (first | (simp at h; omega) | (simp at h))
