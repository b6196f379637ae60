/-! ===== a rule's clauses ===== -/
def ClW (c : List Nat × List Nat) : Prop := EvP 3 false c.1 ∧ (c.2 = [] ∨ EvP 26 true c.2)
def mkC (c : List Nat × List Nat) : Nat := if c.2 = [] then 15 * 1048576 + 0 else 16 * 1048576 + 0
def spC : List (List Nat × List Nat) → List Nat
  | [] => []
  | c :: cs => c.1 ++ (c.2 ++ (mkC c :: spC cs))
theorem evP_R {q : Nat} {T : Bool} {L : List Nat} {wd : Nat → Int64} (h : EvP q T L) : ∃ v, b01 T v ∧ evR wd L [] = some [v] := by
  obtain ⟨v, a1, a2, a3⟩ := h.2 wd
  have := a2 [] []
  rw [List.append_nil] at this
  exact ⟨v, a1, this⟩
theorem evP_ne {q : Nat} {T : Bool} {L : List Nat} (h : EvP q T L) : L ≠ [] := by
  intro e
  obtain ⟨v, a1, a2⟩ := evP_R (wd := fun _ => 0) h
  rw [e] at a2
  have a3 : some ([] : List Int64) = some [v] := a2
  simp at a3
theorem clW_wf {c : List Nat × List Nat} (h : ClW c) (wd : Nat → Int64) : WfC wd c := by
  obtain ⟨v, -, a2⟩ := evP_R (wd := wd) h.1
  refine ⟨⟨v, a2⟩, ?_⟩
  rcases h.2 with e | e
  · exact Or.inl e
  · obtain ⟨w, b1, b2⟩ := evP_R (wd := wd) e
    exact Or.inr ⟨w, b2, b1 rfl⟩
theorem evC_15 {wd : Nat → Int64} {ss : List Nat} {a : Int64} {r : List Int64} : evC wd ((15 * 1048576 + 0) :: ss) (a :: r) = a := by
  simp only [evC]
  rw [if_neg (by decide), if_neg (by decide), if_pos (by decide)]
theorem evC_16 {wd : Nat → Int64} {ss : List Nat} {a b : Int64} {r : List Int64} : evC wd ((16 * 1048576 + 0) :: ss) (a :: b :: r) = if a ≠ 0 then b else evC wd ss [] := by
  simp only [evC]
  rw [if_neg (by decide), if_neg (by decide), if_neg (by decide), if_pos (by decide)]
theorem want_ev (wd : Nat → Int64) : ∀ (cs : List (List Nat × List Nat)), (∀ c ∈ cs, ClW c) → wantF wd cs = evC wd (spC cs) []
  | [], _ => rfl
  | c :: cs, h => by
    have hc := h c (by simp)
    have ih := want_ev wd cs (fun d hd => h d (by simp [hd]))
    obtain ⟨v, a1, a2, a3⟩ := hc.1.2 wd
    have a4 : evR wd c.1 [] = some [v] := by
      have := a2 [] []
      rw [List.append_nil] at this; exact this
    show wantF wd (c :: cs) = evC wd (c.1 ++ (c.2 ++ (mkC c :: spC cs))) []
    rw [a3 _ _ (by simp)]
    rcases hc.2 with e | e
    · rw [want_y (Or.inl e), a4]
      show v = evC wd (c.2 ++ (mkC c :: spC cs)) [v]
      rw [show mkC c = 15 * 1048576 + 0 from if_pos e, e]
      exact evC_15.symm
    · have hne := evP_ne e
      obtain ⟨w, b1, b2, b3⟩ := e.2 wd
      have b4 : evR wd c.2 [] = some [w] := by
        have := b2 [] []
        rw [List.append_nil] at this; exact this
      rw [b3 _ _ (by simp), show mkC c = 16 * 1048576 + 0 from if_neg hne, evC_16]
      have b5 : fstR (evR wd c.2 []) = w := by rw [b4]; rfl
      rcases b1 rfl with z | z
      · rw [want_n (fun q => q.elim hne (fun q2 => by rw [b5, z] at q2; exact absurd q2 (by decide))), if_neg (fun q => q z)]
        exact ih
      · rw [want_y (Or.inr (by rw [b5]; exact z)), if_pos (by rw [z]; decide), a4]
        rfl
theorem stE_app (a b : List Nat) : stE (a ++ b) = stE a ++ stE b := List.filter_append _ _
theorem stE_et {L : List Nat} (h : EtOk L) : stE L = L := by
  unfold stE
  rw [List.filter_eq_self]
  intro x hx
  have := (h x hx).1
  exact decide_eq_true (by omega)
theorem stE_mk (c : List Nat × List Nat) (l : List Nat) : stE (mkC c :: l) = stE l := by
  unfold stE mkC
  by_cases e : c.2 = []
  · rw [if_pos e, List.filter_cons_of_neg (by decide)]
  · rw [if_neg e, List.filter_cons_of_neg (by decide)]
theorem clW_et {c : List Nat × List Nat} (h : ClW c) : EtOk c.1 ∧ EtOk c.2 := by
  refine ⟨h.1.1, ?_⟩
  rcases h.2 with e | e
  · rw [e]; exact fun x hx => absurd hx (by simp)
  · exact e.1
theorem stE_cl {c : List Nat × List Nat} (h : ClW c) : stE (c.1 ++ (c.2 ++ [mkC c])) = c.1 ++ c.2 := by
  rw [stE_app, stE_app, stE_et (clW_et h).1, stE_et (clW_et h).2, stE_mk]
  simp [stE]
theorem spC_app (c : List Nat × List Nat) : ∀ cs, spC (cs ++ [c]) = spC cs ++ (c.1 ++ (c.2 ++ [mkC c]))
  | [] => rfl
  | d :: cs => by
    show d.1 ++ (d.2 ++ (mkC d :: spC (cs ++ [c]))) = (d.1 ++ (d.2 ++ (mkC d :: spC cs))) ++ _
    rw [spC_app c cs]
    simp [List.append_assoc]
theorem flatE_app (c : List Nat × List Nat) : ∀ cs, flatE (cs ++ [c]) = flatE cs ++ (c.1 ++ c.2)
  | [] => by simp [flatE]
  | d :: cs => by
    show d.1 ++ (d.2 ++ flatE (cs ++ [c])) = (d.1 ++ (d.2 ++ flatE cs)) ++ _
    rw [flatE_app c cs]
    simp [List.append_assoc]
theorem flat_et : ∀ {cs : List (List Nat × List Nat)}, (∀ c ∈ cs, ClW c) → EtOk (flatE cs)
  | [], _ => fun x hx => absurd hx (by simp [flatE])
  | d :: cs, h => et_app (clW_et (h d (by simp))).1 (et_app (clW_et (h d (by simp))).2 (flat_et (fun c hc => h c (by simp [hc]))))
theorem stE_sp : ∀ {cs : List (List Nat × List Nat)}, (∀ c ∈ cs, ClW c) → stE (spC cs) = flatE cs
  | [], _ => rfl
  | d :: cs, h => by
    have hd := clW_et (h d (by simp))
    show stE (d.1 ++ (d.2 ++ (mkC d :: spC cs))) = d.1 ++ (d.2 ++ flatE cs)
    rw [stE_app, stE_app, stE_et hd.1, stE_et hd.2, stE_mk, stE_sp (fun c hc => h c (by simp [hc]))]
theorem refC_app {A : Nat → Nat → Int32} {w : Nat} {c : List Nat × List Nat} : ∀ (cs : List (List Nat × List Nat)) (n e : Nat), RefC A w n e cs → A 31 (12 * w + (n + cs.length)) = nI (e + (flatE cs).length) → A 32 (12 * w + (n + cs.length)) = nI (e + (flatE cs).length + c.1.length) → A 33 (12 * w + (n + cs.length)) = nI (e + (flatE cs).length + c.1.length + c.2.length) → RefC A w n e (cs ++ [c])
  | [], n, e, _, h1, h2, h3 => ⟨h1, h2, h3, trivial⟩
  | d :: cs, n, e, ⟨g1, g2, g3, g4⟩, h1, h2, h3 => by
    have el : (d :: cs).length = cs.length + 1 := rfl
    have ef : (flatE (d :: cs)).length = d.1.length + (d.2.length + (flatE cs).length) := by simp [flatE]
    rw [el, ef] at h1 h2 h3
    refine ⟨g1, g2, g3, refC_app cs (n + 1) (e + d.1.length + d.2.length) g4 ?_ ?_ ?_⟩
    · rw [show n + 1 + cs.length = n + (cs.length + 1) by omega, show e + d.1.length + d.2.length + (flatE cs).length = e + (d.1.length + (d.2.length + (flatE cs).length)) by omega]; exact h1
    · rw [show n + 1 + cs.length = n + (cs.length + 1) by omega, show e + d.1.length + d.2.length + (flatE cs).length = e + (d.1.length + (d.2.length + (flatE cs).length)) by omega]; exact h2
    · rw [show n + 1 + cs.length = n + (cs.length + 1) by omega, show e + d.1.length + d.2.length + (flatE cs).length = e + (d.1.length + (d.2.length + (flatE cs).length)) by omega]; exact h3
theorem refC_cg {A A' : Nat → Nat → Int32} {w : Nat} : ∀ (cs : List (List Nat × List Nat)) (n e : Nat), RefC A w n e cs → (∀ j, n ≤ j → j < n + cs.length → A' 31 (12 * w + j) = A 31 (12 * w + j) ∧ A' 32 (12 * w + j) = A 32 (12 * w + j) ∧ A' 33 (12 * w + j) = A 33 (12 * w + j)) → RefC A' w n e cs
  | [], _, _, _, _ => trivial
  | d :: cs, n, e, ⟨g1, g2, g3, g4⟩, h => by
    have el : (d :: cs).length = cs.length + 1 := rfl
    rw [el] at h
    obtain ⟨a1, a2, a3⟩ := h n (Nat.le_refl n) (by omega)
    exact ⟨a1.trans g1, a2.trans g2, a3.trans g3, refC_cg cs (n + 1) _ g4 (fun j h1 h2 => h j (by omega) (by omega))⟩
/-- a clause read: its sum and its test behind what was read before -/
theorem rc_out {tp : Nat → Nat} {n c bf : Nat} {s : xPS} (hn : n ≤ 400) (hb : Hb n c s) (q : (rcP tp n s bf).1 = 0) : s.1 = 0 ∧ bf < 12 ∧ Hb n c (rcP tp n s bf) ∧ ∃ d, ClW d ∧ (sumP tp n (nextP tp n s)).1 = 0 ∧ (sumP tp n (nextP tp n s)).2.2.2 = s.2.2.2 ++ d.1 ∧ (rcP tp n s bf).2.2.2 = s.2.2.2 ++ (d.1 ++ (d.2 ++ [mkC d])) := by
  have h0 := (Mo.rc q).1
  have hp := (hb h0).1
  have hb1 : Hb n c (nextP tp n s) := Hb.next hb
  have hs : sumL tp n 400 none none (nextP tp n s) = sumP tp n (nextP tp n s) := sum_eq hn (fun _ => (at_le (sk_le hp).2).2.1)
  have hb2 := Hb.sumP (tp := tp) hb1
  have g1 : (nextP tp n s).2.2.2 = s.2.2.2 := rfl
  rcases h1 : isW tp n s 1 with _ | _
  · rw [rc_0 h1] at q; exact absurd q failP_ne
  · by_cases hbf : 12 ≤ bf
    · rw [rc_1 h1 hbf] at q; exact absurd q failP_ne
    · refine ⟨h0, by omega, ?_⟩
      rcases h2 : isW tp n (sumL tp n 400 none none (nextP tp n s)) 2 with _ | _
      · rw [rc_3 h1 (by omega) h2, hs] at q ⊢
        obtain ⟨f1, -, -⟩ := putP_f (s := sumP tp n (nextP tp n s)) (k := 15) (op := 0)
        have q1 := f1.symm.trans q
        obtain ⟨L, a1, a2⟩ := ox_sumP hn hb1 q1
        refine ⟨Hb.put hb2, (L, []), ⟨a2, Or.inl rfl⟩, q1, by rw [a1, g1], ?_⟩
        rw [put_o hn hb2 q1, a1, g1, List.append_assoc]
        rfl
      · rw [rc_2 h1 (by omega) h2, hs] at q ⊢
        obtain ⟨e1, e2⟩ := rd_tst (tp := tp) hn (Hb.next (tp := tp) hb2)
        have hm := Mo.rd (tp := tp) (n := n) (k := 802) (m := 1) (d := 0) (s := nextP tp n (sumP tp n (nextP tp n s)))
        generalize rdP tp n 802 1 0 (nextP tp n (sumP tp n (nextP tp n s))) = s3 at q e1 e2 hm ⊢
        obtain ⟨f1, -, -⟩ := putP_f (s := s3) (k := 16) (op := 0)
        have q3 := f1.symm.trans q
        have q1 : (sumP tp n (nextP tp n s)).1 = 0 := (hm q3).1
        obtain ⟨L, a1, a2⟩ := ox_sumP hn hb1 q1
        obtain ⟨M, b1, b2⟩ := e2 q3
        have g2 : (nextP tp n (sumP tp n (nextP tp n s))).2.2.2 = (sumP tp n (nextP tp n s)).2.2.2 := rfl
        refine ⟨(Hb.put e1).wk (by omega), (L, M), ⟨a2, Or.inr b2⟩, q1, by rw [a1, g1], ?_⟩
        rw [put_o hn e1 q3, b1, g2, a1, g1, List.append_assoc, List.append_assoc, show mkC (L, M) = 16 * 1048576 + 0 from if_neg (evP_ne b2)]
