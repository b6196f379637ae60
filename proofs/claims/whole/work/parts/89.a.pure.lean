/-! ===== the reference: a rule read whole ===== -/
theorem nI_surj (v : Int32) : ∃ n, v = nI n := ⟨v.toBitVec.toNat, by unfold nI; rw [Int32.ofNat_bitVecToNat]; rfl⟩
theorem MW.pf {G0 G : xHp} {y : Nat} {hl : xHl} {r : xRw} {sc : Nat × Nat × Int32} {A : Nat → Nat → Int32} {F : Nat → Int32} {wa sa : Nat → Int64} {tn : Nat} (h : MW G0 G y hl r sc A F wa sa) (h27 : F 27 = nI tn) (h36 : F 36 = nI 12) : ∃ p f sl en de co op, MW G0 G y hl r sc A (pF (upd F 36 (nI 12)) tn p f sl en de co op) wa sa := by
  obtain ⟨p, hp⟩ := nI_surj (F 28)
  obtain ⟨f, hf⟩ := nI_surj (F 29)
  obtain ⟨sl, hsl⟩ := nI_surj (F 30)
  obtain ⟨en, hen⟩ := nI_surj (F 32)
  obtain ⟨de, hde⟩ := nI_surj (F 33)
  obtain ⟨co, hco⟩ := nI_surj (F 34)
  obtain ⟨op, hop⟩ := nI_surj (F 35)
  refine ⟨p, f, sl, en, de, co, op, ?_⟩
  have e : pF (upd F 36 (nI 12)) tn p f sl en de co op = F := by
    unfold pF
    rw [← hp, ← hf, ← hsl, ← hen, ← hde, ← hco, ← hop, ← h27, ← h36]
    funext j
    unfold upd
    by_cases e1 : j = 35
    · rw [if_pos e1, e1]
    · rw [if_neg e1]
      by_cases e2 : j = 34
      · rw [if_pos e2, e2]
      · rw [if_neg e2]
        by_cases e3 : j = 33
        · rw [if_pos e3, e3]
        · rw [if_neg e3]
          by_cases e4 : j = 32
          · rw [if_pos e4, e4]
          · rw [if_neg e4]
            by_cases e5 : j = 30
            · rw [if_pos e5, e5]
            · rw [if_neg e5]
              by_cases e6 : j = 29
              · rw [if_pos e6, e6]
              · rw [if_neg e6]
                by_cases e7 : j = 28
                · rw [if_pos e7, e7]
                · rw [if_neg e7]
                  by_cases e8 : j = 27
                  · rw [if_pos e8, e8]
                  · rw [if_neg e8]
                    by_cases e9 : j = 36
                    · rw [if_pos e9, e9]
                    · rw [if_neg e9]
  rw [e]; exact h
theorem KpA.st {A0 A : Nat → Nat → Int32} {sl k j : Nat} {v : Int32} (h : KpA A0 A sl) (h28 : k ≠ 28) (h29 : k ≠ 29) (h34 : k ≠ 34) : KpA (setA A0 k (upd (A0 k) j v)) (setA A k (upd (A k) j v)) sl := by
  refine ⟨fun i a b c => ?_, fun i hi => ?_⟩
  · by_cases e : i = k
    · subst e; rw [setA_at, setA_at, h.1 i a b c]
    · rw [setA_ne e, setA_ne e]; exact h.1 i a b c
  · rw [setA_ne (Ne.symm h28), setA_ne (Ne.symm h29), setA_ne (Ne.symm h28), setA_ne (Ne.symm h29)]; exact h.2 i hi
theorem EnR.st {A : Nat → Nat → Int32} {sl k : Nat} {E : List Nat} {f : Nat → Int32} (h : EnR A sl E) (h28 : k ≠ 28) (h29 : k ≠ 29) : EnR (setA A k f) sl E := fun j hj => by
  rw [setA_ne (Ne.symm h28), setA_ne (Ne.symm h29)]; exact h j hj
theorem PH.st {A0 : Nat → Nat → Int32} {tp : Nat → Nat} {tn sl k : Nat} {f : Nat → Int32} (h : PH A0 tp tn sl) (hk : k ≠ 27) : PH (setA A0 k f) tp tn sl := ⟨by rw [setA_ne (Ne.symm hk)]; exact h.1, h.2⟩
theorem OsR.st {A : Nat → Nat → Int32} {k : Nat} {os : List Nat} {f : Nat → Int32} (h : OsR (A 34) os) (hk : k ≠ 34) : OsR (setA A k f 34) os := by rw [setA_ne (Ne.symm hk)]; exact h
theorem stE_mk0 {s : xPS} {k : Nat} (hk : 15 ≤ k) : stE (putP s k 0).2.2.2 = stE s.2.2.2 := by
  unfold putP
  split
  · show stE (s.2.2.2 ++ [k * 1048576 + 0]) = _
    rw [stE_app]
    have : stE [k * 1048576 + 0] = [] := by
      unfold stE
      rw [List.filter_cons_of_neg (by simp; omega)]
      rfl
    rw [this, List.append_nil]
  · rfl
section RLL
variable {K : xG} {h y : Nat} {G0 G : xHp} {hl : xHl} {r : xRw} {sc : Nat × Nat × Int32} {A0 : Nat → Nat → Int32} {F : Nat → Int32} {wa sa : Nat → Int64} {tn : Nat} {tp : Nat → Nat} {sl b de : Nat} {os : List Nat} {s s' : xPS}
theorem PR.mk {k : Nat} (hk : 15 ≤ k) (hR : PR G0 G y hl r sc A0 F wa sa tn tp sl b de os s) : PR G0 G y hl r sc A0 F wa sa tn tp sl b de os (putP s k 0) := by
  obtain ⟨f1, f2, f3⟩ := putP_f (s := s) (k := k) (op := 0)
  obtain ⟨hf9, A, p, co, en, dd, op, hM, hK, hp, hc, hz⟩ := hR
  refine ⟨by rw [f1]; exact hf9, A, p, co, en, dd, op, by rw [f1]; exact hM, hK, hp, hc, fun q => ?_⟩
  rw [f1] at q
  rw [f2, f3, stE_mk0 hk]
  exact hz q
theorem PR.ts {de' : Nat} {os' : List Nat} (hR : PR G0 G y hl r sc A0 F wa sa tn tp sl b de os s) (h1 : s'.1 = s.1) (h2 : s.1 = 0 → s' = s ∧ de' = de ∧ os' = os) : PR G0 G y hl r sc A0 F wa sa tn tp sl b de' os' s' := by
  by_cases e : s.1 = 0
  · obtain ⟨a1, a2, a3⟩ := h2 e
    rw [a1, a2, a3]; exact hR
  · obtain ⟨hf9, A, p, co, en, dd, op, hM, hK, hp, hc, hz⟩ := hR
    exact ⟨by omega, A, p, co, en, dd, op, by rw [h1]; exact hM, hK, hp, hc, fun q => absurd (h1.symm.trans q) e⟩
/-- behind all clauses -/
def PE (G0 G : xHp) (y : Nat) (hl : xHl) (r : xRw) (sc : Nat × Nat × Int32) (A0 : Nat → Nat → Int32) (F : Nat → Int32) (wa sa : Nat → Int64) (tn sl : Nat) (s : xPS) : Prop := s.1 < 1000000 ∧ ∃ (A : Nat → Nat → Int32) (p co en dd op : Nat), MW G0 G y hl r sc A (pF (upd F 36 (nI 12)) tn p s.1 sl en dd co op) wa sa ∧ KpA A0 A sl ∧ (s.1 = 0 → EnR A sl (stE s.2.2.2))
end RLL
def eeR (tp : Nat → Nat) (n : Nat) (s : xPS) : xPS := (eeP tp n s.1 s.2.1, s.2)
theorem rrL_f {tp : Nat → Nat} {n bf : Nat} {s : xPS} (h : isS tp n s.1 s.2.1 59 = false) : ∀ k, rrL tp n k bf s = s
  | 0 => rfl
  | k + 1 => if_neg (by rw [h]; decide)
theorem rrL_t {tp : Nat → Nat} {n k bf : Nat} {s : xPS} (h : isS tp n s.1 s.2.1 59 = true) : rrL tp n (k + 1) bf s = rrL tp n k (bf + 1) (rcP tp n (nextP tp n s) bf) := if_pos h
theorem rul_ee (tp : Nat → Nat) (n : Nat) : rulP tp n = eeR tp n (rrL tp n 12 1 (rcP tp n (0, 0, 0, []) 0)) := rfl
/-- the tables of clauses: one place is another -/
def KpC (A0 A1 : Nat → Nat → Int32) (i : Nat) : Prop := ∀ k j, ¬ ((k = 31 ∨ k = 32 ∨ k = 33) ∧ j = i) → A1 k j = A0 k j
theorem KpC.rf {A0 : Nat → Nat → Int32} {i : Nat} : KpC A0 A0 i := fun _ _ _ => rfl
theorem KpC.set {A0 A : Nat → Nat → Int32} {i k : Nat} {v : Int32} (h : KpC A0 A i) (hk : k = 31 ∨ k = 32 ∨ k = 33) : KpC A0 (setA A k (upd (A k) i v)) i := by
  intro q j hq
  by_cases e : q = k
  · subst e
    rw [setA_at, upd_off (fun z => hq ⟨hk, z⟩)]
    exact h q j hq
  · rw [setA_ne e]; exact h q j hq
/-- from where a rule's reading began -/
def RkC (A A0 : Nat → Nat → Int32) (sl : Nat) : Prop := ∀ k j, ¬ ((k = 31 ∨ k = 32 ∨ k = 33) ∧ 12 * sl ≤ j) → A0 k j = A k j
theorem RkC.kp {A A0 A1 : Nat → Nat → Int32} {sl bf : Nat} (h : RkC A A0 sl) (h1 : KpC A0 A1 (12 * sl + bf)) : RkC A A1 sl := fun k j hq => (h1 k j (fun z => hq ⟨z.1, by omega⟩)).trans (h k j hq)
/-- what a rule read leaves: the rules before stay -/
def RuK (A A' : Nat → Nat → Int32) (sl : Nat) : Prop := (∀ k, ¬ (28 ≤ k ∧ k ≤ 34) → A' k = A k) ∧ (∀ j, j < 300 * sl → A' 28 j = A 28 j ∧ A' 29 j = A 29 j) ∧ (∀ j, j < sl → A' 30 j = A 30 j) ∧ ∀ j, j < 12 * sl → A' 31 j = A 31 j ∧ A' 32 j = A 32 j ∧ A' 33 j = A 33 j
theorem RefR.kp {A A' : Nat → Nat → Int32} {w sl : Nat} {cs : List (List Nat × List Nat)} (h : RefR A w cs) (hk : RuK A A' sl) (hw : w < sl) : RefR A' w cs := by
  obtain ⟨h1, h2, h3, ⟨h4, h5⟩, h6⟩ := h
  obtain ⟨k1, k2, k3, k4⟩ := hk
  refine ⟨h1, h2, (k3 w hw).trans h3, ⟨h4, fun j hj => ?_⟩, refC_cg cs 0 0 h6 (fun j _ hj => ?_)⟩
  · obtain ⟨e1, e2⟩ := k2 (300 * w + j) (by omega)
    rw [e1, e2]; exact h5 j hj
  · exact k4 (12 * w + j) (by omega)
theorem RuK.mk {A A0 A1 : Nat → Nat → Int32} {sl : Nat} {v : Int32} (h : RkC A A0 sl) (hk : KpA A0 A1 sl) : RuK A (setA A1 30 (upd (A1 30) sl v)) sl := by
  refine ⟨fun k hk2 => ?_, fun j hj => ?_, fun j hj => ?_, fun j hj => ?_⟩
  · rw [setA_ne (by omega), hk.1 k (by omega) (by omega) (by omega)]
    funext j
    exact h k j (by omega)
  · rw [setA_ne (by decide), setA_ne (by decide)]
    obtain ⟨e1, e2⟩ := hk.2 j hj
    rw [e1, e2]
    exact ⟨h 28 j (by omega), h 29 j (by omega)⟩
  · rw [setA_at, upd_off (by omega), hk.1 30 (by decide) (by decide) (by decide)]
    exact h 30 j (by omega)
  · rw [setA_ne (by decide), setA_ne (by decide), setA_ne (by decide), hk.1 31 (by decide) (by decide) (by decide), hk.1 32 (by decide) (by decide) (by decide), hk.1 33 (by decide) (by decide) (by decide)]
    exact ⟨h 31 j (by omega), h 32 j (by omega), h 33 j (by omega)⟩
theorem refE_mk {A : Nat → Nat → Int32} {sl : Nat} {E : List Nat} {f : Nat → Int32} (h : EnR A sl E) (he : EtOk E) (hl : E.length ≤ 300) : RefE (setA A 30 f) sl E := by
  refine ⟨hl, fun j hj => ?_⟩
  rw [setA_ne (by decide), setA_ne (by decide)]
  obtain ⟨a1, a2⟩ := h j hj
  have hm : E.getD j 0 ∈ E := by
    rw [List.getD, List.getElem?_eq_getElem hj]; exact List.getElem_mem hj
  obtain ⟨b1, b2⟩ := he _ hm
  exact ⟨a1, a2, b1, b2⟩
/-- the clauses read so far -/
def CsI (A0 : Nat → Nat → Int32) (sl bf : Nat) (out : List Nat) : Prop := ∃ cs, out = spC cs ∧ (∀ c ∈ cs, ClW c) ∧ cs.length = bf ∧ RefC A0 sl 0 0 cs
theorem csI_step {A0 A1 : Nat → Nat → Int32} {sl bf n : Nat} {tp : Nat → Nat} {s : xPS} (hn : n ≤ 400) (h : CsI A0 sl bf s.2.2.2) (hb : Hb n 0 s) (hk : KpC A0 A1 (12 * sl + bf)) (q : (rcP tp n s bf).1 = 0) (ha : A1 31 (12 * sl + bf) = nI (stE s.2.2.2).length ∧ A1 32 (12 * sl + bf) = nI (stE (sumP tp n (nextP tp n s)).2.2.2).length ∧ A1 33 (12 * sl + bf) = nI (stE (rcP tp n s bf).2.2.2).length) : CsI A1 sl (bf + 1) (rcP tp n s bf).2.2.2 := by
  obtain ⟨cs, a1, a2, a3, a4⟩ := h
  obtain ⟨h0, hbf, hb2, d, d1, d2, d3, d4⟩ := rc_out hn hb q
  obtain ⟨e1, e2, e3⟩ := ha
  have hf : stE s.2.2.2 = flatE cs := by rw [a1]; exact stE_sp a2
  have l2 : (stE (sumP tp n (nextP tp n s)).2.2.2).length = (flatE cs).length + d.1.length := by
    rw [d3, stE_app, hf, stE_et (clW_et d1).1, List.length_append]
  have l3 : (stE (rcP tp n s bf).2.2.2).length = (flatE cs).length + d.1.length + d.2.length := by
    rw [d4, stE_app, hf, stE_cl d1, List.length_append, List.length_append]; omega
  refine ⟨cs ++ [d], ?_, ?_, by rw [List.length_append, a3]; rfl, ?_⟩
  · rw [d4, a1, spC_app]
  · intro c hc
    rcases List.mem_append.mp hc with z | z
    · exact a2 c z
    · rw [List.mem_singleton.mp z]; exact d1
  · refine refC_app cs 0 0 (refC_cg cs 0 0 a4 (fun j _ hj => ?_)) ?_ ?_ ?_
    · have hne : ∀ k, ¬ ((k = 31 ∨ k = 32 ∨ k = 33) ∧ 12 * sl + j = 12 * sl + bf) := fun k z => by omega
      exact ⟨hk 31 _ (hne 31), hk 32 _ (hne 32), hk 33 _ (hne 33)⟩
    · rw [a3, Nat.zero_add, Nat.zero_add, e1, hf]
    · rw [a3, Nat.zero_add, Nat.zero_add, e2, l2]
    · rw [a3, Nat.zero_add, Nat.zero_add, e3, l3]
theorem csI_ref {A0 A1 : Nat → Nat → Int32} {sl bf : Nat} {out : List Nat} {v : Int32} (h : CsI A0 sl bf out) (hsl : sl < 6) (hbf : bf ≤ 12) (hK : KpA A0 A1 sl) (he : EnR A1 sl (stE out)) (hlen : out.length < 300) (hv : v = nI bf) : ∃ cs, RefR (setA A1 30 (upd (A1 30) sl v)) sl cs ∧ (∀ c ∈ cs, ClW c) ∧ out = spC cs := by
  obtain ⟨cs, a1, a2, a3, a4⟩ := h
  have hf : stE out = flatE cs := by rw [a1]; exact stE_sp a2
  have hl := stE_len out
  rw [hf] at he hl
  refine ⟨cs, ⟨hsl, by omega, by rw [setA_at, upd_at, hv, a3], refE_mk he (flat_et a2) (by omega), refC_cg cs 0 0 a4 (fun j _ hj => ?_)⟩, a2, a1⟩
  rw [setA_ne (by decide), setA_ne (by decide), setA_ne (by decide), hK.1 31 (by decide) (by decide) (by decide), hK.1 32 (by decide) (by decide) (by decide), hK.1 33 (by decide) (by decide) (by decide)]
  exact ⟨rfl, rfl, rfl⟩
