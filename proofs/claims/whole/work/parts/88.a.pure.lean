/-! ===== a rule's steps worked out: no value is wanting, none too many ===== -/
def EtOk (L : List Nat) : Prop := ∀ x ∈ L, x / 1048576 ≤ 14 ∧ (x / 1048576 = 1 → x % 1048576 < 12)
def b01 (T : Bool) (v : Int64) : Prop := T = true → v = 0 ∨ v = 1
def EvP (q : Nat) (T : Bool) (L : List Nat) : Prop := EtOk L ∧ ∀ wd : Nat → Int64, ∃ v, b01 T v ∧ (∀ stk ss, evR wd (L ++ ss) stk = evR wd ss (v :: stk)) ∧ ∀ stk ss, stk.length + q ≤ 32 → evC wd (L ++ ss) stk = evC wd ss (v :: stk)
def EvT (q : Nat) (T : Bool) (L : List Nat) : Prop := EtOk L ∧ ∀ (wd : Nat → Int64) (v : Int64), b01 T v → ∃ v', b01 T v' ∧ (∀ stk ss, evR wd (L ++ ss) (v :: stk) = evR wd ss (v' :: stk)) ∧ ∀ stk ss, stk.length + q ≤ 32 → evC wd (L ++ ss) (v :: stk) = evC wd ss (v' :: stk)
theorem et_app {L M : List Nat} (h1 : EtOk L) (h2 : EtOk M) : EtOk (L ++ M) := fun x hx => (List.mem_append.mp hx).elim (h1 x) (h2 x)
theorem et_one {x : Nat} (h : x / 1048576 ≤ 14) (h2 : x / 1048576 = 1 → x % 1048576 < 12) : EtOk [x] := fun z hz => by
  have e : z = x := List.mem_singleton.mp hz
  rw [e]; exact ⟨h, h2⟩
theorem evR_jj {wd : Nat → Int64} {s : Nat} {ss : List Nat} {b a : Int64} {r : List Int64} (h0 : s / 1048576 ≠ 0) (h1 : s / 1048576 ≠ 1) (h : s / 1048576 ≠ 14) : evR wd (s :: ss) (b :: a :: r) = evR wd ss (jn (s / 1048576) a b :: r) := by
  simp only [evR]; rw [if_neg h0, if_neg h1, if_neg h]
theorem evC_jj {wd : Nat → Int64} {s : Nat} {ss : List Nat} {b a : Int64} {r : List Int64} (h0 : 2 ≤ s / 1048576) (h1 : s / 1048576 ≤ 13) : evC wd (s :: ss) (b :: a :: r) = evC wd ss (jn (s / 1048576) a b :: r) := by
  simp only [evC]; rw [if_neg (by omega), if_neg (by omega), if_neg (by omega), if_neg (by omega)]
theorem evR_nn {wd : Nat → Int64} {s : Nat} {ss : List Nat} {a : Int64} {r : List Int64} (h : s / 1048576 = 14) : evR wd (s :: ss) (a :: r) = evR wd ss ((1 - a) :: r) := by
  simp only [evR]; rw [if_neg (by omega), if_neg (by omega), if_pos h]
theorem evC_nn {wd : Nat → Int64} {s : Nat} {ss : List Nat} {a : Int64} {r : List Int64} (h : s / 1048576 = 14) : evC wd (s :: ss) (a :: r) = evC wd ss ((1 - a) :: r) := by
  simp only [evC]; rw [if_neg (by omega), if_pos h]
theorem jn_cmp {c : Nat} (h1 : 7 ≤ c) (h2 : c ≤ 11) (a b : Int64) : jn c a b = 0 ∨ jn c a b = 1 := by
  have key : ∀ (P : Prop) [Decidable P], (if P then (1 : Int64) else 0) = 0 ∨ (if P then (1 : Int64) else 0) = 1 := by
    intro P hP
    by_cases e : P
    · rw [if_pos e]; exact Or.inr rfl
    · rw [if_neg e]; exact Or.inl rfl
  have hc : c = 7 ∨ c = 8 ∨ c = 9 ∨ c = 10 ∨ c = 11 := by omega
  rcases hc with e | e | e | e | e <;> subst e
  · exact key (a < b)
  · exact key (a ≤ b)
  · exact key (a = b)
  · exact key (b ≤ a)
  · exact key (b < a)
theorem jn_bl {c : Nat} (hc : c = 12 ∨ c = 13) {a b : Int64} (ha : a = 0 ∨ a = 1) (hb : b = 0 ∨ b = 1) : jn c a b = 0 ∨ jn c a b = 1 := by
  rcases hc with e | e <;> rcases ha with e2 | e2 <;> rcases hb with e3 | e3 <;> subst e <;> subst e2 <;> subst e3 <;> decide
theorem nt_bl {a : Int64} (ha : a = 0 ∨ a = 1) : 1 - a = 0 ∨ 1 - a = 1 := by
  rcases ha with e2 | e2 <;> subst e2 <;> decide
theorem EvP.wk {q q' : Nat} {T : Bool} {L : List Nat} (h : EvP q T L) (hq : q ≤ q') : EvP q' T L := by
  refine ⟨h.1, fun wd => ?_⟩
  obtain ⟨v, a1, a2, a3⟩ := h.2 wd
  exact ⟨v, a1, a2, fun stk ss hs => a3 stk ss (by omega)⟩
theorem EvT.wk {q q' : Nat} {T : Bool} {L : List Nat} (h : EvT q T L) (hq : q ≤ q') : EvT q' T L := by
  refine ⟨h.1, fun wd v hv => ?_⟩
  obtain ⟨w, a1, a2, a3⟩ := h.2 wd v hv
  exact ⟨w, a1, a2, fun stk ss hs => a3 stk ss (by omega)⟩
theorem ev_one {x : Nat} (h : x / 1048576 < 2) (h2 : x / 1048576 = 1 → x % 1048576 < 12) : EvP 1 false [x] := by
  refine ⟨et_one (by omega) h2, fun wd => ?_⟩
  by_cases e : x / 1048576 = 0
  · refine ⟨(nI (x % 1048576)).toInt64, fun q => absurd q (by decide), fun stk ss => evR_n e, fun stk ss hs => ?_⟩
    show evC wd (x :: ss) stk = _
    simp only [evC]
    rw [if_pos (by omega), if_pos (by omega), if_pos e]
  · refine ⟨wd (x % 1048576), fun q => absurd q (by decide), fun stk ss => evR_w (by omega), fun stk ss hs => ?_⟩
    show evC wd (x :: ss) stk = _
    simp only [evC]
    rw [if_pos (by omega), if_pos (by omega), if_neg e, if_pos (h2 (by omega))]
theorem evT_nil {q : Nat} {T : Bool} : EvT q T [] := ⟨fun x hx => absurd hx (by simp), fun wd v h => ⟨v, h, fun _ _ => rfl, fun _ _ _ => rfl⟩⟩
theorem EvP.app {q : Nat} {T : Bool} {L M : List Nat} (h1 : EvP q T L) (h2 : EvT q T M) : EvP q T (L ++ M) := by
  refine ⟨et_app h1.1 h2.1, fun wd => ?_⟩
  obtain ⟨v, a1, a2, a3⟩ := h1.2 wd
  obtain ⟨w, b1, b2, b3⟩ := h2.2 wd v a1
  exact ⟨w, b1, fun stk ss => by rw [List.append_assoc, a2, b2], fun stk ss hs => by rw [List.append_assoc, a3 _ _ hs, b3 _ _ hs]⟩
theorem EvT.app {q : Nat} {T : Bool} {L M : List Nat} (h1 : EvT q T L) (h2 : EvT q T M) : EvT q T (L ++ M) := by
  refine ⟨et_app h1.1 h2.1, fun wd u hu => ?_⟩
  obtain ⟨v, a1, a2, a3⟩ := h1.2 wd u hu
  obtain ⟨w, b1, b2, b3⟩ := h2.2 wd v a1
  exact ⟨w, b1, fun stk ss => by rw [List.append_assoc, a2, b2], fun stk ss hs => by rw [List.append_assoc, a3 _ _ hs, b3 _ _ hs]⟩
theorem evT_jn {q c : Nat} {M : List Nat} (hc : 2 ≤ c) (hc2 : c ≤ 6) (h : EvP q false M) : EvT (q + 1) false (M ++ [c * 1048576 + 0]) := by
  have e : (c * 1048576 + 0) / 1048576 = c := by omega
  refine ⟨et_app h.1 (et_one (by omega) (fun z => by omega)), fun wd u hu => ?_⟩
  obtain ⟨v, a1, a2, a3⟩ := h.2 wd
  refine ⟨jn c u v, fun z => absurd z (by decide), fun stk ss => ?_, fun stk ss hs => ?_⟩
  · rw [List.append_assoc, a2]
    show evR wd ((c * 1048576 + 0) :: ss) (v :: u :: stk) = _
    rw [evR_jj (by omega) (by omega) (by omega), e]
  · rw [List.append_assoc, a3 _ _ (by simp only [List.length_cons]; omega)]
    show evC wd ((c * 1048576 + 0) :: ss) (v :: u :: stk) = _
    rw [evC_jj (by omega) (by omega), e]
theorem evT_bl {q c : Nat} {M : List Nat} (hc : c = 12 ∨ c = 13) (h : EvP q true M) : EvT (q + 1) true (M ++ [c * 1048576 + 0]) := by
  have e : (c * 1048576 + 0) / 1048576 = c := by omega
  refine ⟨et_app h.1 (et_one (by omega) (fun z => by omega)), fun wd u hu => ?_⟩
  obtain ⟨v, a1, a2, a3⟩ := h.2 wd
  refine ⟨jn c u v, fun _ => jn_bl hc (hu rfl) (a1 rfl), fun stk ss => ?_, fun stk ss hs => ?_⟩
  · rw [List.append_assoc, a2]
    show evR wd ((c * 1048576 + 0) :: ss) (v :: u :: stk) = _
    rw [evR_jj (by omega) (by omega) (by omega), e]
  · rw [List.append_assoc, a3 _ _ (by simp only [List.length_cons]; omega)]
    show evC wd ((c * 1048576 + 0) :: ss) (v :: u :: stk) = _
    rw [evC_jj (by omega) (by omega), e]
theorem evP_cmp {q c : Nat} {L M : List Nat} (hc : 7 ≤ c) (hc2 : c ≤ 11) (h1 : EvP q false L) (h2 : EvP q false M) : EvP (q + 1) true (L ++ (M ++ [c * 1048576 + 0])) := by
  have e : (c * 1048576 + 0) / 1048576 = c := by omega
  refine ⟨et_app h1.1 (et_app h2.1 (et_one (by omega) (fun z => by omega))), fun wd => ?_⟩
  obtain ⟨u, b1, b2, b3⟩ := h1.2 wd
  obtain ⟨v, a1, a2, a3⟩ := h2.2 wd
  refine ⟨jn c u v, fun _ => jn_cmp hc hc2 u v, fun stk ss => ?_, fun stk ss hs => ?_⟩
  · rw [List.append_assoc, b2, List.append_assoc, a2]
    show evR wd ((c * 1048576 + 0) :: ss) (v :: u :: stk) = _
    rw [evR_jj (by omega) (by omega) (by omega), e]
  · rw [List.append_assoc, b3 _ _ (by omega), List.append_assoc, a3 _ _ (by simp only [List.length_cons]; omega)]
    show evC wd ((c * 1048576 + 0) :: ss) (v :: u :: stk) = _
    rw [evC_jj (by omega) (by omega), e]
theorem evP_nt {q : Nat} {L : List Nat} (h : EvP q true L) : EvP q true (L ++ [14 * 1048576 + 0]) := by
  refine ⟨et_app h.1 (et_one (by decide) (fun z => absurd z (by decide))), fun wd => ?_⟩
  obtain ⟨v, a1, a2, a3⟩ := h.2 wd
  refine ⟨1 - v, fun _ => nt_bl (a1 rfl), fun stk ss => ?_, fun stk ss hs => ?_⟩
  · rw [List.append_assoc, a2]
    show evR wd ((14 * 1048576 + 0) :: ss) (v :: stk) = _
    rw [evR_nn (by decide)]
  · rw [List.append_assoc, a3 _ _ hs]
    show evC wd ((14 * 1048576 + 0) :: ss) (v :: stk) = _
    rw [evC_nn (by decide)]
/-- what is put behind a state's steps -/
def Ox (s s' : xPS) (P : List Nat → Prop) : Prop := s'.1 = 0 → ∃ L, s'.2.2.2 = s.2.2.2 ++ L ∧ P L
section OXL
variable {tp : Nat → Nat} {n : Nat}
theorem put_o {c k v : Nat} {s : xPS} (hn : n ≤ 400) (h : Hb n c s) (h0 : s.1 = 0) : (putP s k v).2.2.2 = s.2.2.2 ++ [k * 1048576 + v] := by
  rw [put_lt (by have := Hb.len hn h h0; omega)]
theorem ox_val {c : Nat} {s : xPS} (hn : n ≤ 400) (h : Hb n c s) : Ox s (valP tp n s) (EvP 1 false) := by
  intro q
  have h0 := (Mo.val q).1
  obtain ⟨-, v2⟩ := val_eq (tp := tp) (n := n) (p := s.2.1) h0 rfl (h h0).2.1 (by have := Hb.len hn h h0; omega)
  obtain ⟨-, -, -, -, w, u5, u6, u7, -⟩ := v2 q
  exact ⟨[w], u7, ev_one u5 u6⟩
theorem ox_trm {c : Nat} (hn : n ≤ 400) : ∀ {j : Nat} {s : xPS}, Hb n (c + 3) s → Ox s (trmL tp n j s) (EvT 2 false)
  | 0, s, h => fun q => ⟨[], by simp [trmL], evT_nil⟩
  | j + 1, s, h => by
    intro q
    rcases hs : stpP tp n s with _ | k
    · rw [trmL_n hs]; exact ⟨[], by simp, evT_nil⟩
    · by_cases e : 4 ≤ k ∧ k ≤ 6
      · rw [trmL_s hs e.1 e.2] at q ⊢
        have m1 := Mo.trm q
        obtain ⟨f1, -, -⟩ := putP_f (s := valP tp n (nextP tp n s)) (k := k) (op := 0)
        have q1 : (valP tp n (nextP tp n s)).1 = 0 := f1.symm.trans m1.1
        obtain ⟨L1, a1, a2⟩ := ox_val hn (Hb.next (tp := tp) h) q1
        have hv := Hb.val (tp := tp) (Hb.next (tp := tp) h)
        obtain ⟨L2, b1, b2⟩ := ox_trm hn (Hb.put (k := k) (v := 0) hv) q
        have e2 : (putP (valP tp n (nextP tp n s)) k 0).2.2.2 = s.2.2.2 ++ (L1 ++ [k * 1048576 + 0]) := by
          rw [put_o hn hv q1, a1, List.append_assoc]; rfl
        exact ⟨(L1 ++ [k * 1048576 + 0]) ++ L2, by rw [b1, e2, List.append_assoc], (evT_jn (by omega) e.2 a2).app b2⟩
      · rw [trmL_e hs e]; exact ⟨[], by simp, evT_nil⟩
theorem ox_trmP {c : Nat} {s : xPS} (hn : n ≤ 400) (h : Hb n c s) : Ox s (trmP tp n s) (EvP 2 false) := by
  intro q
  have m1 := Mo.trm (tp := tp) (n := n) (j := 400) (s := valP tp n s) q
  obtain ⟨L1, a1, a2⟩ := ox_val hn h m1.1
  obtain ⟨L2, b1, b2⟩ := ox_trm hn (Hb.val (tp := tp) h) q
  exact ⟨L1 ++ L2, by rw [← List.append_assoc, ← a1]; exact b1, (a2.wk (by decide)).app b2⟩
theorem ox_sm {c : Nat} (hn : n ≤ 400) : ∀ {j : Nat} {s : xPS}, Hb n (c + 3) s → Ox s (smL tp n j s) (EvT 3 false)
  | 0, s, h => fun q => ⟨[], by simp [smL], evT_nil⟩
  | j + 1, s, h => by
    intro q
    rcases hs : stpP tp n s with _ | k
    · rw [smL_n hs]; exact ⟨[], by simp, evT_nil⟩
    · by_cases e : k = 2 ∨ k = 3
      · rw [smL_s hs e] at q ⊢
        have m1 := Mo.sm q
        obtain ⟨f1, -, -⟩ := putP_f (s := trmP tp n (nextP tp n s)) (k := k) (op := 0)
        have q1 : (trmP tp n (nextP tp n s)).1 = 0 := f1.symm.trans m1.1
        obtain ⟨L1, a1, a2⟩ := ox_trmP hn (Hb.next (tp := tp) h) q1
        have hv := Hb.trmP (tp := tp) (Hb.next (tp := tp) h)
        obtain ⟨L2, b1, b2⟩ := ox_sm hn (Hb.put (k := k) (v := 0) hv) q
        have e2 : (putP (trmP tp n (nextP tp n s)) k 0).2.2.2 = s.2.2.2 ++ (L1 ++ [k * 1048576 + 0]) := by
          rw [put_o hn hv q1, a1, List.append_assoc]; rfl
        exact ⟨(L1 ++ [k * 1048576 + 0]) ++ L2, by rw [b1, e2, List.append_assoc], (evT_jn (by omega) (by omega) a2).app b2⟩
      · rw [smL_e hs e]; exact ⟨[], by simp, evT_nil⟩
theorem ox_sumP {c : Nat} {s : xPS} (hn : n ≤ 400) (h : Hb n c s) : Ox s (sumP tp n s) (EvP 3 false) := by
  intro q
  have m1 := Mo.sm (tp := tp) (n := n) (j := 400) (s := trmP tp n s) q
  obtain ⟨L1, a1, a2⟩ := ox_trmP hn h m1.1
  obtain ⟨L2, b1, b2⟩ := ox_sm hn (Hb.trmP (tp := tp) h) q
  exact ⟨L1 ++ L2, by rw [← List.append_assoc, ← a1]; exact b1, (a2.wk (by decide)).app b2⟩
theorem ox_cmp {c : Nat} {s : xPS} (hn : n ≤ 400) (h : Hb n c s) : Ox s (cmpP tp n s) (EvP 4 true) := by
  intro q
  have h0 := (Mo.cmp q).1
  have hp := (h h0).1
  have hs : sumL tp n 400 none none s = sumP tp n s := sum_eq hn (fun _ => hp)
  unfold cmpP at q ⊢
  rw [hs] at q ⊢
  rcases hst : stpP tp n (sumP tp n s) with _ | k
  · rw [hst] at q; exact absurd q failP_ne
  · rw [hst] at q
    simp only at q ⊢
    obtain ⟨e0, e1, e2, e3⟩ := stp_lt hst
    have hb := Hb.sumP (tp := tp) h
    have hp2 := (hb e0).1
    by_cases c1 : k < 7
    · rw [if_pos c1] at q; exact absurd q failP_ne
    · rw [if_neg c1] at q ⊢
      by_cases c2 : 60 ≤ (sumP tp n s).2.2.1
      · rw [if_pos c2] at q; exact absurd q failP_ne
      · rw [if_neg c2] at q ⊢
        have h2 : ctP tp n (sumP tp n s) = cntP (sumP tp n s) := if_pos ⟨e0, by omega⟩
        have h4 : sumL tp n 400 none none (nextP tp n (cntP (sumP tp n s))) = sumP tp n (nextP tp n (cntP (sumP tp n s))) := sum_eq hn (fun _ => (at_le (sk_le hp2).2).2.1)
        rw [h4] at q ⊢
        obtain ⟨f1, -, -⟩ := putP_f (s := sumP tp n (nextP tp n (cntP (sumP tp n s)))) (k := k) (op := 0)
        have q1 := f1.symm.trans q
        have hb2 : Hb n (c + 3 + 6) (nextP tp n (cntP (sumP tp n s))) := by rw [← h2]; exact Hb.next (Hb.ct hb)
        obtain ⟨L1, a1, a2⟩ := ox_sumP hn h e0
        obtain ⟨L2, b1, b2⟩ := ox_sumP hn hb2 q1
        have g1 : (nextP tp n (cntP (sumP tp n s))).2.2.2 = (sumP tp n s).2.2.2 := rfl
        refine ⟨L1 ++ (L2 ++ [k * 1048576 + 0]), ?_, evP_cmp (by omega) (by omega) a2 b2⟩
        rw [put_o hn (Hb.sumP (tp := tp) hb2) q1, b1, g1, a1, List.append_assoc, List.append_assoc]
def QF (d : Nat) : Nat := 4 + 2 * (10 - d)
def RF (tp : Nat → Nat) (n k : Nat) : Prop := ∀ (d : Nat) (s : xPS) (c : Nat), nd n k 1 s → Hb n c s → Hb n (c + 3) (rdP tp n k 0 d s) ∧ Ox s (rdP tp n k 0 d s) (EvP (QF d) true)
def RA (tp : Nat → Nat) (n k : Nat) : Prop := ∀ (d : Nat) (s : xPS) (c : Nat), nd n k 1 s → Hb n c s → Hb n c (rdP tp n k 3 d s) ∧ Ox s (rdP tp n k 3 d s) (EvT (QF d + 1) true)
def R1 (tp : Nat → Nat) (n k : Nat) : Prop := ∀ (d : Nat) (s : xPS) (c : Nat), nd n k 2 s → Hb n c s → Hb n (c + 3) (rdP tp n k 1 d s) ∧ Ox s (rdP tp n k 1 d s) (EvP (QF d + 2) true)
def R2 (tp : Nat → Nat) (n k : Nat) : Prop := ∀ (d : Nat) (s : xPS) (c : Nat), nd n k 2 s → Hb n c s → Hb n c (rdP tp n k 2 d s) ∧ Ox s (rdP tp n k 2 d s) (EvT (QF d + 2) true)
theorem rd_bad {k m d c : Nat} {s : xPS} {P : List Nat → Prop} (h0 : ¬ s.1 = 0) : Hb n c (rdP tp n k m d s) ∧ Ox s (rdP tp n k m d s) P := ⟨fun q => absurd (Mo.rd q).1 h0, fun q => absurd (Mo.rd q).1 h0⟩
theorem rf_s {k : Nat} (hn : n ≤ 400) (hF : RF tp n k) (h1 : R1 tp n k) : RF tp n (k + 1) := by
  intro d s c hnd hb
  by_cases h0 : s.1 = 0
  · have hp := (hb h0).1
    have hk := hnd.2 h0
    by_cases hdp : 10 ≤ d ∧ (isW tp n s 5 = true ∨ isS tp n s.1 s.2.1 91 = true)
    · rw [rd_deep hdp.2 hdp.1]
      exact ⟨fun q => absurd q failP_ne, fun q => absurd q failP_ne⟩
    · rcases h5 : isW tp n s 5 with _ | _
      · rcases h6 : isS tp n s.1 s.2.1 91 with _ | _
        · rw [rd_cmp h5 h6]
          refine ⟨(Hb_cmp hn hb).wk (by omega), fun q => ?_⟩
          obtain ⟨L, a1, a2⟩ := ox_cmp hn hb q
          exact ⟨L, a1, a2.wk (by unfold QF; omega)⟩
        · have hd10 : d < 10 := Nat.lt_of_not_le (fun q => hdp ⟨q, Or.inr h6⟩)
          have h7 := of_decide_eq_true h6
          have g := next_gt (tp := tp) (n := n) (s := s) hp (by omega)
          rw [rd_br h5 h6 hd10]
          obtain ⟨a1, a2⟩ := h1 (d + 1) (nextP tp n s) c ⟨by omega, fun _ => by omega⟩ (Hb.next hb)
          generalize rdP tp n k 1 (d + 1) (nextP tp n s) = s1 at a1 a2 ⊢
          by_cases c4 : isS tp n s1.1 s1.2.1 93 = true
          · rw [show clsP tp n s1 = nextP tp n s1 from if_pos c4]
            refine ⟨Hb.next a1, fun q => ?_⟩
            obtain ⟨L, b1, b2⟩ := a2 q
            exact ⟨L, b1, b2.wk (by unfold QF; omega)⟩
          · rw [show clsP tp n s1 = failP tp n s1 0 from if_neg c4]
            exact ⟨fun q => absurd q failP_ne, fun q => absurd q failP_ne⟩
      · have hd10 : d < 10 := Nat.lt_of_not_le (fun q => hdp ⟨q, Or.inl h5⟩)
        have h7 := isW_at (tp := tp) (n := n) (p := skP tp n s.2.1) (i := 5) (j := 19) (by decide) (by decide) (by decide) wl_e5 h0 rfl
        rw [h5] at h7
        have h8 := st_at (tp := tp) (n := n) (by decide) xl_19 h7.symm
        have h9 := sk_le (tp := tp) hp
        have h10 : (nextP tp n s).2.1 = skP tp n s.2.1 + 3 := h8.2
        rw [rd_not h5 hd10]
        obtain ⟨a1, a2⟩ := hF (d + 1) (nextP tp n s) (c + 3) ⟨by omega, fun _ => by omega⟩ (Hb.p3 (m := 3) hb (fun _ => by omega))
        generalize rdP tp n k 0 (d + 1) (nextP tp n s) = s1 at a1 a2 ⊢
        obtain ⟨f1, -, -⟩ := putP_f (s := s1) (k := 14) (op := 0)
        refine ⟨Hb.put a1, fun q => ?_⟩
        have q1 := f1.symm.trans q
        obtain ⟨L, b1, b2⟩ := a2 q1
        have g1 : (nextP tp n s).2.2.2 = s.2.2.2 := rfl
        exact ⟨L ++ [14 * 1048576 + 0], by rw [put_o hn a1 q1, b1, g1, List.append_assoc], evP_nt (b2.wk (by unfold QF; omega))⟩
  · exact rd_bad h0
theorem ra_s {k : Nat} (hn : n ≤ 400) (hF : RF tp n k) (hA : RA tp n k) : RA tp n (k + 1) := by
  intro d s c hnd hb
  by_cases h0 : s.1 = 0
  · have hp := (hb h0).1
    have hk := hnd.2 h0
    rcases h3 : isW tp n s 3 with _ | _
    · rw [rd_and0 h3]
      exact ⟨hb, fun q => ⟨[], by simp, evT_nil⟩⟩
    · have h7 := isW_s h3
      have g := next_gt (tp := tp) (n := n) (s := s) hp (by omega)
      rw [rd_and h3]
      obtain ⟨a1, a2⟩ := hF d (nextP tp n s) c ⟨by omega, fun _ => by omega⟩ (Hb.next hb)
      have hm := Mo.rd (tp := tp) (n := n) (k := k) (m := 0) (d := d) (s := nextP tp n s)
      generalize rdP tp n k 0 d (nextP tp n s) = s1 at a1 a2 hm ⊢
      obtain ⟨f1, f2, -⟩ := putP_f (s := s1) (k := 12) (op := 0)
      obtain ⟨b1, b2⟩ := hA d (putP s1 12 0) c ⟨by omega, fun q => by have := hm (f1.symm.trans q); rw [f2]; omega⟩ (Hb.put a1)
      refine ⟨b1, fun q => ?_⟩
      have q1 : s1.1 = 0 := f1.symm.trans (Mo.rd q).1
      obtain ⟨L1, c1, c2⟩ := a2 q1
      obtain ⟨L2, d1, d2⟩ := b2 q
      have g1 : (nextP tp n s).2.2.2 = s.2.2.2 := rfl
      exact ⟨(L1 ++ [12 * 1048576 + 0]) ++ L2, by rw [d1, put_o hn a1 q1, c1, g1, List.append_assoc, List.append_assoc, List.append_assoc], (evT_bl (Or.inl rfl) c2).app d2⟩
  · exact rd_bad h0
theorem r1_s {k : Nat} (hF : RF tp n k) (hA : RA tp n k) (h2 : R2 tp n k) : R1 tp n (k + 1) := by
  intro d s c hnd hb
  by_cases h0 : s.1 = 0
  · have hp := (hb h0).1
    have hk := hnd.2 h0
    have e : rdP tp n (k + 1) 1 d s = if isW tp n (orP tp n k 0 d s) 4 = true then rdP tp n k 2 d (nextP tp n (orP tp n k 0 d s)) else orP tp n k 0 d s := rd_test (v := 0)
    have eo : orP tp n k 0 d s = rdP tp n k 3 d (rdP tp n k 0 d s) := if_pos rfl
    obtain ⟨a1, a2⟩ := hF d s c ⟨by omega, fun _ => by omega⟩ hb
    have hm := Mo.rd (tp := tp) (n := n) (k := k) (m := 0) (d := d) (s := s)
    have hm3 := Mo.rd (tp := tp) (n := n) (k := k) (m := 3) (d := d) (s := rdP tp n k 0 d s)
    rw [e, eo]
    generalize rdP tp n k 0 d s = s1 at a1 a2 hm hm3 ⊢
    obtain ⟨b1, b2⟩ := hA d s1 (c + 3) ⟨by omega, fun q => by have := hm q; omega⟩ a1
    generalize rdP tp n k 3 d s1 = s2 at b1 b2 hm3 ⊢
    have key : Ox s s2 (EvP (QF d + 1) true) := fun q => by
      obtain ⟨L1, c1, c2⟩ := a2 (hm3 q).1
      obtain ⟨L2, d1, d2⟩ := b2 q
      exact ⟨L1 ++ L2, by rw [d1, c1, List.append_assoc], (c2.wk (by omega)).app d2⟩
    rcases h4 : isW tp n s2 4 with _ | _
    · rw [if_neg (by decide)]
      refine ⟨b1, fun q => ?_⟩
      obtain ⟨L, c1, c2⟩ := key q
      exact ⟨L, c1, c2.wk (by omega)⟩
    · rw [if_pos rfl]
      have h7 := isW_s h4
      have hp2 := (b1 h7.1).1
      have g := next_gt (tp := tp) (n := n) (s := s2) hp2 (by omega)
      have m1 := hm3 h7.1
      have m2 := hm m1.1
      obtain ⟨e1, e2⟩ := h2 d (nextP tp n s2) (c + 3) ⟨by omega, fun _ => by omega⟩ (Hb.next b1)
      refine ⟨e1, fun q => ?_⟩
      obtain ⟨L1, c1, c2⟩ := key h7.1
      obtain ⟨L2, d1, d2⟩ := e2 q
      have g1 : (nextP tp n s2).2.2.2 = s2.2.2.2 := rfl
      exact ⟨L1 ++ L2, by rw [d1, g1, c1, List.append_assoc], (c2.wk (by omega)).app d2⟩
  · exact rd_bad h0
theorem r2_s {k : Nat} (hn : n ≤ 400) (hF : RF tp n k) (hA : RA tp n k) (h2 : R2 tp n k) : R2 tp n (k + 1) := by
  intro d s c hnd hb
  by_cases h0 : s.1 = 0
  · have hp := (hb h0).1
    have hk := hnd.2 h0
    have e : rdP tp n (k + 1) 2 d s = if isW tp n (orP tp n k 1 d s) 4 = true then rdP tp n k 2 d (nextP tp n (orP tp n k 1 d s)) else orP tp n k 1 d s := rd_test (v := 1)
    have eo : orP tp n k 1 d s = putP (rdP tp n k 3 d (rdP tp n k 0 d s)) 13 0 := if_neg (by decide)
    obtain ⟨a1, a2⟩ := hF d s c ⟨by omega, fun _ => by omega⟩ hb
    have hm := Mo.rd (tp := tp) (n := n) (k := k) (m := 0) (d := d) (s := s)
    have hm3 := Mo.rd (tp := tp) (n := n) (k := k) (m := 3) (d := d) (s := rdP tp n k 0 d s)
    rw [e, eo]
    generalize rdP tp n k 0 d s = s1 at a1 a2 hm hm3 ⊢
    obtain ⟨b1, b2⟩ := hA d s1 (c + 3) ⟨by omega, fun q => by have := hm q; omega⟩ a1
    generalize rdP tp n k 3 d s1 = s2 at b1 b2 hm3 ⊢
    obtain ⟨f1, f2, -⟩ := putP_f (s := s2) (k := 13) (op := 0)
    have hb3 : Hb n c (putP s2 13 0) := Hb.put b1
    have key : Ox s (putP s2 13 0) (EvT (QF d + 2) true) := fun q => by
      have q1 := f1.symm.trans q
      obtain ⟨L1, c1, c2⟩ := a2 (hm3 q1).1
      obtain ⟨L2, d1, d2⟩ := b2 q1
      exact ⟨(L1 ++ L2) ++ [13 * 1048576 + 0], by rw [put_o hn b1 q1, d1, c1, List.append_assoc, List.append_assoc, List.append_assoc], evT_bl (Or.inr rfl) ((c2.wk (by omega)).app d2)⟩
    rcases h4 : isW tp n (putP s2 13 0) 4 with _ | _
    · rw [if_neg (by decide)]
      exact ⟨hb3, key⟩
    · rw [if_pos rfl]
      have h7 := isW_s h4
      have hp2 := (hb3 h7.1).1
      have g := next_gt (tp := tp) (n := n) (s := putP s2 13 0) hp2 (by omega)
      have m1 := hm3 (f1.symm.trans h7.1)
      have m2 := hm m1.1
      obtain ⟨e1, e2⟩ := h2 d (nextP tp n (putP s2 13 0)) c ⟨by omega, fun _ => by omega⟩ (Hb.next hb3)
      refine ⟨e1, fun q => ?_⟩
      obtain ⟨L1, c1, c2⟩ := key h7.1
      obtain ⟨L2, d1, d2⟩ := e2 q
      have g1 : (nextP tp n (putP s2 13 0)).2.2.2 = (putP s2 13 0).2.2.2 := rfl
      exact ⟨L1 ++ L2, by rw [d1, g1, c1, List.append_assoc], c2.app d2⟩
  · exact rd_bad h0
theorem rd_all (hn : n ≤ 400) : ∀ k, RF tp n k ∧ RA tp n k ∧ R1 tp n k ∧ R2 tp n k
  | 0 => ⟨fun d s c h => absurd h.1 (by omega), fun d s c h => absurd h.1 (by omega), fun d s c h => absurd h.1 (by omega), fun d s c h => absurd h.1 (by omega)⟩
  | k + 1 => by
    obtain ⟨a1, a2, a3, a4⟩ := rd_all hn k
    exact ⟨rf_s hn a1 a3, ra_s hn a1 a2, r1_s a1 a2 a4, r2_s hn a1 a2 a4⟩
theorem rd_tst {c : Nat} {s : xPS} (hn : n ≤ 400) (hb : Hb n c s) : Hb n (c + 3) (rdP tp n 802 1 0 s) ∧ Ox s (rdP tp n 802 1 0 s) (EvP 26 true) :=
  (rd_all hn 802).2.2.1 0 s c ⟨by omega, fun _ => by omega⟩ hb
end OXL
