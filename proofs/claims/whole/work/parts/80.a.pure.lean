/-! ===== the reference's reader against the class's: values ===== -/
def stE (l : List Nat) : List Nat := l.filter (fun v => decide (v / 1048576 < 15))
def EnR (A : Nat → Nat → Int32) (sl : Nat) (E : List Nat) : Prop := ∀ j, j < E.length → A 28 (300 * sl + j) = nI (kR (E.getD j 0 / 1048576)) ∧ A 29 (300 * sl + j) = nI (E.getD j 0 % 1048576)
def KpA (A0 A : Nat → Nat → Int32) (sl : Nat) : Prop := (∀ k, k ≠ 28 → k ≠ 29 → k ≠ 34 → A k = A0 k) ∧ ∀ j, j < 300 * sl → A 28 j = A0 28 j ∧ A 29 j = A0 29 j
def OsR (oa : Nat → Int32) (os : List Nat) : Prop := ∀ j, j < os.length → oa (os.length - 1 - j) = nI (os.getD j 0)
def PR (G0 G : xHp) (y : Nat) (hl : xHl) (r : xRw) (sc : Nat × Nat × Int32) (A0 : Nat → Nat → Int32) (F : Nat → Int32) (wa sa : Nat → Int64) (tn : Nat) (tp : Nat → Nat) (sl b de : Nat) (os : List Nat) (s : xPS) : Prop := s.1 < 1000000 ∧ ∃ (A : Nat → Nat → Int32) (p co en dd op : Nat), MW G0 G y hl r sc A (pF (upd F 36 (nI 12)) tn p s.1 sl en dd co op) wa sa ∧ KpA A0 A sl ∧ p ≤ tn + 2 ∧ co ≤ 60 + b ∧ (s.1 = 0 → p ≤ tn ∧ skP tp tn p = skP tp tn s.2.1 ∧ co = s.2.2.1 ∧ co ≤ 60 ∧ en = (stE s.2.2.2).length ∧ dd = de ∧ op = os.length ∧ OsR (A 34) os ∧ EnR A sl (stE s.2.2.2))
abbrev prQ (G0 : xHp) (h y : Nat) (hl : xHl) (r : xRw) (sc : Nat × Nat × Int32) (A0 : Nat → Nat → Int32) (F : Nat → Int32) (wa sa : Nat → Int64) (tn : Nat) (tp : Nat → Nat) (sl b de : Nat) (os : List Nat) (s : xPS) : xPost := xEx (fun G' => PR G0 G' y hl r sc A0 F wa sa tn tp sl b de os s) (fun _ => none) (fun _ => h) (fun G' => G')
def PH (A0 : Nat → Nat → Int32) (tp : Nat → Nat) (tn sl : Nat) : Prop := TpE (A0 27) tp ∧ (∀ j, tp j < 256) ∧ tn ≤ 400 ∧ sl < 6
theorem stE_put {l : List Nat} {v : Nat} (h : v / 1048576 < 15) : stE (l ++ [v]) = stE l ++ [v] := by
  unfold stE
  rw [List.filter_append]
  simp [h]
theorem stE_len (l : List Nat) : (stE l).length ≤ l.length := List.length_filter_le _ _
theorem getD_app {l : List Nat} {v j : Nat} (h : j < l.length) : (l ++ [v]).getD j 0 = l.getD j 0 := by
  simp only [List.getD]
  rw [List.getElem?_append_left h]
theorem getD_last {l : List Nat} {v : Nat} : (l ++ [v]).getD l.length 0 = v := by simp [List.getD]
theorem EnR.put {A : Nat → Nat → Int32} {sl : Nat} {E : List Nat} (h : EnR A sl E) (v : Nat) : EnR (entA A 0 sl E.length (kR (v / 1048576)) (v % 1048576)) sl (E ++ [v]) := by
  intro j hj
  rw [show entA A 0 sl E.length (kR (v / 1048576)) (v % 1048576) = _ from if_pos rfl]
  simp only [List.length_append, List.length_cons, List.length_nil] at hj
  by_cases e : j = E.length
  · subst e
    rw [getD_last]
    simp [setA, upd]
  · rw [getD_app (by omega)]
    have h1 := h j (by omega)
    have e2 : ¬ 300 * sl + j = 300 * sl + E.length := by omega
    simpa [setA, upd, e2, e] using h1
theorem KpA.ent {A0 A : Nat → Nat → Int32} {sl f en a b : Nat} (h : KpA A0 A sl) : KpA A0 (entA A f sl en a b) sl := by
  unfold entA
  split
  · refine ⟨fun k h1 h2 h3 => ?_, fun j hj => ?_⟩
    · simp only [setA, if_neg h1, if_neg h2]; exact h.1 k h1 h2 h3
    · have e2 : ¬ j = 300 * sl + en := by omega
      simpa [setA, upd, e2] using h.2 j hj
  · exact h
theorem ent_34 {A : Nat → Nat → Int32} {f sl en a b : Nat} : entA A f sl en a b 34 = A 34 := by
  unfold entA
  split
  · simp [setA]
  · rfl
theorem ent_f {A : Nat → Nat → Int32} {f sl en a b : Nat} (h : f ≠ 0) : entA A f sl en a b = A := if_neg h
theorem flt_f {f c b : Nat} (h : f ≠ 0) : flt f c b = f := if_neg h
theorem cf_f {f co b : Nat} (h : f ≠ 0) : cfF f co b = f := by unfold cfF; rw [flt_f h, ite_self]
theorem dg_f {tp : Nat → Nat} {n p f : Nat} (h : f ≠ 0) : dgF tp n p f = f := by unfold dgF; rw [flt_f h, ite_self]
theorem val_f {tp : Nat → Nat} {n p f co : Nat} (h : f ≠ 0) : valF tp n p f co = f := by
  unfold valF; rw [dg_f h, cf_f h, flt_f h, ite_self, ite_self]
theorem valA_f {tp : Nat → Nat} {n p f co : Nat} {A : Nat → Nat → Int32} {sl en : Nat} (h : f ≠ 0) : valA tp n p f co A sl en = A := by
  unfold valA; rw [val_f h, ent_f h, ent_f h, ite_self, ite_self]
theorem flP_f {tp : Nat → Nat} {n f p w : Nat} (h : f ≠ 0) : flP tp n f p w = f := if_neg h
theorem valP_f {tp : Nat → Nat} {n : Nat} {s : xPS} (h : s.1 ≠ 0) : (valP tp n s).1 = s.1 := by
  unfold valP
  rw [show wiO tp n s.1 s.2.1 (wl 6) = none from if_neg (fun q => h q.1)]
  simp only
  rw [if_pos (fun q => h q.1)]
  exact flP_f h
theorem dgB_kd {tp : Nat → Nat} {n p : Nat} : dgB tp n p = true ↔ kdA tp n p = 2 := by
  unfold dgB kdA
  rw [Bool.and_eq_true, decide_eq_true_eq]
  by_cases e : n ≤ p
  · rw [if_pos e]; omega
  · rw [if_neg e]
    by_cases e2 : isLw tp p = true
    · have h2 := of_decide_eq_true e2
      rw [if_pos e2]
      constructor
      · rintro ⟨-, h1⟩
        have h3 := of_decide_eq_true h1
        omega
      · omega
    · rw [if_neg e2]
      by_cases e3 : isDg tp p = true
      · rw [if_pos e3]; exact ⟨fun _ => rfl, fun _ => ⟨by omega, e3⟩⟩
      · rw [if_neg e3]; exact ⟨fun q => absurd q.2 e3, fun q => by omega⟩
theorem st_len {tp : Nat → Nat} {n p i : Nat} (h : stB tp n p i = true) : p + (xs_byt i).length = runF (isLw tp) (n - p) p := by
  have h1 := (stB_iff.mp h).2
  have h2 := runF_le (isLw tp) (n - p) p
  rw [wl_len] at h1
  omega
theorem st_kd {tp : Nat → Nat} {n p i : Nat} (hi : i < 26) (h : stB tp n p i = true) : kdA tp n p = 1 := by
  by_cases e : kdA tp n p = 1
  · exact e
  · rw [stB_no hi e] at h; exact absurd h (by decide)
theorem put_lt {s : xPS} {k v : Nat} (h : s.2.2.2.length < 400) : putP s k v = (s.1, s.2.1, s.2.2.1, s.2.2.2 ++ [k * 1048576 + v]) := if_pos h
theorem at_dg {tp : Nat → Nat} {n p : Nat} (h : kdA tp n p = 2) : p < n ∧ isLw tp p = false ∧ isDg tp p = true := by
  have h1 := dgB_kd.mpr h
  unfold dgB at h1
  rw [Bool.and_eq_true, decide_eq_true_eq] at h1
  have h3 := of_decide_eq_true h1.2
  exact ⟨h1.1, isLw_f (Or.inl (by omega)), h1.2⟩
theorem val_eq {tp : Nat → Nat} {n p : Nat} {s : xPS} (h0 : s.1 = 0) (hq : skP tp n p = skP tp n s.2.1) (hc : s.2.2.1 ≤ 60) (hL : s.2.2.2.length < 400) : (valP tp n s).1 = valF tp n p 0 s.2.2.1 ∧ ((valP tp n s).1 = 0 → (valP tp n s).2.1 = valQ tp n p ∧ (valP tp n s).2.2.1 = s.2.2.1 + 1 ∧ valC tp n p s.2.2.1 = s.2.2.1 + 1 ∧ s.2.2.1 + 1 ≤ 60 ∧ ∃ v, v / 1048576 < 2 ∧ (v / 1048576 = 1 → v % 1048576 < 12) ∧ (valP tp n s).2.2.2 = s.2.2.2 ++ [v] ∧ ∀ (A : Nat → Nat → Int32) (sl en : Nat), valA tp n p 0 s.2.2.1 A sl en = entA A 0 sl en (kR (v / 1048576)) (v % 1048576) ∧ valN tp n p 0 s.2.2.1 en = en + 1) := by
  obtain ⟨f, sp, co, out⟩ := s
  simp only at h0 hq hc hL
  subst h0
  have hwi := wiO_wk (tp := tp) (n := n) (p := sp)
  rw [← hq] at hwi
  by_cases hk : kdA tp n (skP tp n p) = 2
  · have hdg := dgB_kd.mpr hk
    obtain ⟨g1, g2, g3⟩ := at_dg hk
    have hw := wkF_no (tp := tp) (n := n) (p := skP tp n p) (by omega) 12 0 (by omega)
    rw [hw, if_pos rfl] at hwi
    have hnm := nm_d hk
    have hrl := runF_le (isDg tp) (n - skP tp n p) (skP tp n p)
    have hdd : ∀ j, j < runF (isDg tp) (n - skP tp n p) (skP tp n p) - skP tp n p → isDg tp (skP tp n p + j) = true := fun j hj => runF_in (p := skP tp n p) (k := n - skP tp n p) (by omega) (by omega)
    have hvP : valP tp n (0, sp, co, out) = if nmA tp n (skP tp n p) = -1 then failP tp n (0, sp, co, out) 1 else if 60 ≤ co then failP tp n (0, sp, co, out) 3 else nextP tp n (putP (cntP (0, sp, co, out)) 0 (nmN tp n sp)) := by
      simp only [valP, hwi, ← hq]
      rw [if_neg (fun q => q ⟨trivial, hk⟩)]
    have hvF : valF tp n p 0 co = cfF (dgF tp n (skP tp n p) 0) co (skP tp n p) := if_pos hdg
    rw [hvP]
    by_cases h5 : 5 < runF (isDg tp) (n - skP tp n p) (skP tp n p) - skP tp n p
    · rw [if_pos (by rw [hnm]; exact nmF_big tp _ h5)]
      have h6 : dgF tp n (skP tp n p) 0 = 1 + 8 * skP tp n p + 1 := by unfold dgF; rw [if_pos h5]; rfl
      refine ⟨?_, fun q => absurd q failP_ne⟩
      rw [hvF, h6, cf_f (by omega), hq]
      rfl
    · have h7 := dvN_nm tp (skP tp n p) _ (by omega) hdd
      have h8 := (dvN_lt tp (skP tp n p) _ hdd).1
      rw [if_neg (by rw [hnm, h7]; exact nI_ne1 (by omega))]
      have h6 : dgF tp n (skP tp n p) 0 = 0 := if_neg h5
      rw [h6] at hvF
      by_cases h60 : 60 ≤ co
      · rw [if_pos h60]
        refine ⟨?_, fun q => absurd q failP_ne⟩
        rw [hvF, show cfF 0 co (skP tp n p) = flt 0 3 (skP tp n p) from if_pos (by omega), hq]
        rfl
      · rw [if_neg h60]
        have hvF0 : valF tp n p 0 co = 0 := by rw [hvF]; exact if_neg (by omega)
        have hN : nmN tp n sp = dvN tp (skP tp n p) (runF (isDg tp) (n - skP tp n p) (skP tp n p) - skP tp n p) := by
          unfold nmN; rw [← hq, hnm, h7, thN_nI (by omega)]
        rw [put_lt (s := cntP (0, sp, co, out)) hL]
        refine ⟨hvF0.symm, fun _ => ⟨?_, rfl, ?_, by show co + 1 ≤ 60; omega, 0 * 1048576 + nmN tp n sp, by omega, fun q => by omega, rfl, fun A sl en => ⟨?_, ?_⟩⟩⟩
        · show atA tp n (skP tp n sp) = valQ tp n p
          rw [← hq, at_d g1 g2 g3]
          exact (if_pos hdg).symm
        · exact if_neg (fun q => absurd (q.1.symm.trans hdg) (by decide))
        · unfold valA
          rw [if_pos hdg, hvF0, hN, show (0 * 1048576 + dvN tp (skP tp n p) (runF (isDg tp) (n - skP tp n p) (skP tp n p) - skP tp n p)) / 1048576 = 0 by omega, show (0 * 1048576 + dvN tp (skP tp n p) (runF (isDg tp) (n - skP tp n p) (skP tp n p) - skP tp n p)) % 1048576 = dvN tp (skP tp n p) (runF (isDg tp) (n - skP tp n p) (skP tp n p) - skP tp n p) by omega]
          rfl
        · unfold valN
          rw [if_neg (fun q => absurd (q.1.symm.trans hdg) (by decide)), hvF0]
          rfl
  · have hdg : ¬ dgB tp n (skP tp n p) = true := fun q => hk (dgB_kd.mp q)
    have hdf : dgB tp n (skP tp n p) = false := by simpa using hdg
    by_cases hw : wkF tp n (skP tp n p) 12 0 = 12
    · rw [if_pos hw] at hwi
      have hvF : valF tp n p 0 co = flt 0 0 (skP tp n p) := by unfold valF; rw [if_neg hdg, if_pos hw]
      have hvP : valP tp n (0, sp, co, out) = failP tp n (0, sp, co, out) 0 := by
        simp only [valP, hwi, ← hq]
        rw [if_pos (fun q => hk q.2)]
      rw [hvP]
      refine ⟨?_, fun q => absurd q failP_ne⟩
      rw [hvF, hq]
      rfl
    · rw [if_neg hw] at hwi
      have hwle := wkF_le tp n (skP tp n p) 12 0
      have hst := wkF_st tp n (skP tp n p) 12 0 (by omega)
      have hvF : valF tp n p 0 co = cfF 0 co (skP tp n p) := by unfold valF; rw [if_neg hdg, if_neg hw]
      have hvP : valP tp n (0, sp, co, out) = if 60 ≤ co then failP tp n (0, sp, co, out) 3 else nextP tp n (putP (cntP (0, sp, co, out)) 1 (wkF tp n (skP tp n p) 12 0)) := by
        simp only [valP, hwi]
      rw [hvP]
      by_cases h60 : 60 ≤ co
      · rw [if_pos h60]
        refine ⟨?_, fun q => absurd q failP_ne⟩
        rw [hvF, show cfF 0 co (skP tp n p) = flt 0 3 (skP tp n p) from if_pos (by omega), hq]
        rfl
      · rw [if_neg h60]
        have hvF0 : valF tp n p 0 co = 0 := by rw [hvF]; exact if_neg (by omega)
        rw [put_lt (s := cntP (0, sp, co, out)) hL]
        refine ⟨hvF0.symm, fun _ => ⟨?_, rfl, ?_, by show co + 1 ≤ 60; omega, 1 * 1048576 + wkF tp n (skP tp n p) 12 0, by omega, fun q => by omega, rfl, fun A sl en => ⟨?_, ?_⟩⟩⟩
        · show atA tp n (skP tp n sp) = valQ tp n p
          unfold valQ
          rw [← hq, if_neg hdg, if_neg hw, st_len hst]
          exact (at_run (st_kd (by omega) hst)).2.2
        · exact if_neg (fun q => hw q.2)
        · unfold valA
          rw [if_neg hdg, if_neg hw, hvF0, show (1 * 1048576 + wkF tp n (skP tp n p) 12 0) / 1048576 = 1 by omega, show (1 * 1048576 + wkF tp n (skP tp n p) 12 0) % 1048576 = wkF tp n (skP tp n p) 12 0 by omega]
          rfl
        · unfold valN
          rw [if_neg (fun q => hw q.2), hvF0]
          rfl
theorem valQ_le {tp : Nat → Nat} {n p : Nat} (hp : p ≤ n + 2) : valQ tp n p ≤ n + 2 ∧ (p ≤ n → valQ tp n p ≤ n) := by
  have hs : skP tp n p ≤ n + 2 ∧ (p ≤ n → skP tp n p ≤ n) := by
    have := runF_le (blB tp) (n - p) p
    unfold skP
    exact ⟨by omega, fun _ => by omega⟩
  unfold valQ
  split
  · have := runF_le (isDg tp) (n - skP tp n p) (skP tp n p)
    exact ⟨by omega, fun q => by have := hs.2 q; omega⟩
  · split
    · exact hs
    · rename_i h1 h2
      have hwle := wkF_le tp n (skP tp n p) 12 0
      have hst := wkF_st tp n (skP tp n p) 12 0 (by omega)
      rw [st_len hst]
      have := runF_le (isLw tp) (n - skP tp n p) (skP tp n p)
      exact ⟨by omega, fun q => by have := hs.2 q; omega⟩
theorem valC_le {tp : Nat → Nat} {n p co : Nat} : valC tp n p co ≤ co + 1 := by unfold valC; split <;> omega
theorem valP_lt {tp : Nat → Nat} {n p f co : Nat} (hf : f < 1000000) (hp : skP tp n p < 60000) : valF tp n p f co < 1000000 := by
  unfold valF
  split
  · exact cfF_lt (dgF_lt hf (by omega)) (by omega)
  · split
    · exact flt_lt hf (by decide) (by omega)
    · exact cfF_lt hf (by omega)
theorem KpA.val {A0 A : Nat → Nat → Int32} {sl : Nat} {tp : Nat → Nat} {n p f co en : Nat} (h : KpA A0 A sl) : KpA A0 (valA tp n p f co A sl en) sl := by
  unfold valA
  split
  · exact h.ent
  · split
    · exact h
    · exact h.ent
theorem PR_value {K : xG} {h y : Nat} {G0 G : xHp} {hl : xHl} {r : xRw} {sc : Nat × Nat × Int32} {A0 : Nat → Nat → Int32} {F : Nat → Int32} {wa sa : Nat → Int64} {tn : Nat} {tp : Nat → Nat} {sl b de : Nat} {os : List Nat} {s : xPS} (hH : PH A0 tp tn sl) (hR : PR G0 G y hl r sc A0 F wa sa tn tp sl b de os s) (hb : b < 500) (hL : s.1 = 0 → s.2.2.2.length < 300) : xCall K mX12_value 5 0 0 [.ref y] h G (prQ G0 h y hl r sc A0 F wa sa tn tp sl (b + 1) de os (valP tp tn s)) := by
  obtain ⟨hT, hlt, htn, hs⟩ := hH
  obtain ⟨hf9, A, p, co, en, dd, op, hM, hK, hp, hc, hz⟩ := hR
  rw [← hK.1 27 (by decide) (by decide) (by decide)] at hT
  have hen : s.1 = 0 → en < 300 := fun q => by
    have h1 := (hz q).2.2.2.2.1
    have h2 := stE_len s.2.2.2
    have h3 := hL q
    omega
  refine x_callpost (fun v h' G' hq => ?_) (Md_value hT hlt htn hM (by omega) hf9 (by omega) hs hen)
  obtain ⟨G8, hM8, e1, e2, e3⟩ := hq
  refine ⟨G8, ?_, e1, e2, e3⟩
  have hq9 := sk_9 (tp := tp) (n := tn) (p := p) htn (by omega)
  have hvl := valQ_le (tp := tp) hp
  have hvc := valC_le (tp := tp) (n := tn) (p := p) (co := co)
  by_cases hf : s.1 = 0
  · obtain ⟨z1, z2, z3, z4, z5, z6, z7, z8, z9⟩ := hz hf
    obtain ⟨v1, v2⟩ := val_eq (tp := tp) (n := tn) (p := p) hf z2 (by omega) (by have := hL hf; omega)
    rw [hf] at hM8
    subst z3
    rw [← v1] at hM8
    refine ⟨by rw [v1]; exact valP_lt (by decide) hq9, _, _, _, _, _, _, hM8, hK.val, hvl.1, by omega, fun q => ?_⟩
    obtain ⟨u1, u2, u3, u4, w, u5, u6, u7, u8⟩ := v2 q
    obtain ⟨u9, u10⟩ := u8 A sl en
    refine ⟨hvl.2 z1, by rw [u1], by rw [u2, u3], by omega, ?_, z6, z7, ?_, ?_⟩
    · rw [u10, u7, stE_put (by omega), List.length_append, z5]; rfl
    · rw [u9, ent_34]; exact z8
    · rw [u9, u7, stE_put (by omega), z5]
      exact z9.put w
  · rw [val_f hf, valA_f hf] at hM8
    have e4 := valP_f (tp := tp) (n := tn) hf
    rw [← e4] at hM8
    refine ⟨by rw [e4]; exact hf9, A, _, _, _, _, _, hM8, hK, hvl.1, by omega, fun q => absurd (e4.symm.trans q) hf⟩
