/-! ===== the reference's test is the class's ===== -/
theorem failP_k {tp : Nat → Nat} {n c : Nat} {s : xPS} (h : s.1 ≠ 0) : (failP tp n s c).1 = s.1 := by
  unfold failP flP
  exact if_neg h
theorem isW_n {tp : Nat → Nat} {n i : Nat} {s : xPS} (h : s.1 ≠ 0) : isW tp n s i = false := by
  rcases q0 : isW tp n s i with _ | _
  · rfl
  · exact absurd (isW_s q0).1 h
theorem isS_n {tp : Nat → Nat} {n p f c : Nat} (h : f ≠ 0) : isS tp n f p c = false := by
  rcases q0 : isS tp n f p c with _ | _
  · rfl
  · exact absurd (of_decide_eq_true q0).1 h
/-- a fault stays -/
def Fk (s s' : xPS) : Prop := s.1 ≠ 0 → s'.1 = s.1
theorem Fk.rf {s : xPS} : Fk s s := fun _ => rfl
theorem Fk.tr {s s1 s2 : xPS} (h1 : Fk s s1) (h2 : Fk s1 s2) : Fk s s2 := fun q => by
  have e1 := h1 q
  exact (h2 (by rw [e1]; exact q)).trans e1
theorem Fk.fail {tp : Nat → Nat} {n c : Nat} {s : xPS} : Fk s (failP tp n s c) := fun q => failP_k q
theorem Fk.put {s : xPS} {k op : Nat} : Fk s (putP s k op) := fun q => (putP_f (s := s) (k := k) (op := op)).1
theorem Fk.putO {s : xPS} : ∀ {o : Option Nat}, Fk s (putO s o)
  | none => Fk.rf
  | some _ => Fk.put
theorem Fk.cnt {s : xPS} : Fk s (cntP s) := fun _ => rfl
theorem Fk.next {tp : Nat → Nat} {n : Nat} {s : xPS} : Fk s (nextP tp n s) := fun _ => rfl
theorem Fk.val {tp : Nat → Nat} {n : Nat} {s : xPS} : Fk s (valP tp n s) := by
  unfold valP
  split
  · split
    · exact Fk.fail
    · exact (Fk.cnt.tr Fk.put).tr Fk.next
  · split
    · exact Fk.fail
    · split
      · exact Fk.fail
      · split
        · exact Fk.fail
        · exact (Fk.cnt.tr Fk.put).tr Fk.next
theorem Fk.sum {tp : Nat → Nat} {n : Nat} : ∀ {k : Nat} {iS iT : Option Nat} {s : xPS}, Fk s (sumL tp n k iS iT s)
  | 0, _, _, _ => Fk.rf
  | k + 1, iS, iT, s => by
    simp only [sumL]
    split
    · exact (Fk.val.tr Fk.putO).tr Fk.putO
    · split
      · exact ((Fk.val.tr Fk.putO).tr Fk.next).tr Fk.sum
      · split
        · exact (((Fk.val.tr Fk.putO).tr Fk.putO).tr Fk.next).tr Fk.sum
        · exact (Fk.val.tr Fk.putO).tr Fk.putO
theorem Fk.cmp {tp : Nat → Nat} {n : Nat} {s : xPS} : Fk s (cmpP tp n s) := by
  unfold cmpP
  split
  · exact Fk.sum.tr Fk.fail
  · split
    · exact Fk.sum.tr Fk.fail
    · split
      · exact Fk.sum.tr Fk.fail
      · exact (((Fk.sum.tr Fk.cnt).tr Fk.next).tr Fk.sum).tr Fk.put
theorem Fk.cls {tp : Nat → Nat} {n : Nat} {s : xPS} : Fk s (clsP tp n s) := by
  unfold clsP
  split
  · exact Fk.next
  · exact Fk.fail
theorem Fk.rd {tp : Nat → Nat} {n : Nat} : ∀ {k m d : Nat} {s : xPS}, Fk s (rdP tp n k m d s)
  | 0, _, _, _ => Fk.rf
  | k + 1, m, d, s => by
    simp only [rdP]
    split
    · split
      · split
        · exact Fk.fail
        · exact (Fk.next.tr Fk.rd).tr Fk.put
      · split
        · split
          · exact Fk.fail
          · exact (Fk.next.tr Fk.rd).tr Fk.cls
        · exact Fk.cmp
    · split
      · split
        · exact ((Fk.next.tr Fk.rd).tr Fk.put).tr Fk.rd
        · exact Fk.rf
      · have h : Fk s (if m = 2 then putP (rdP tp n k 3 d (rdP tp n k 0 d s)) 13 0 else rdP tp n k 3 d (rdP tp n k 0 d s)) := by
          split
          · exact (Fk.rd.tr Fk.rd).tr Fk.put
          · exact Fk.rd.tr Fk.rd
        generalize (if m = 2 then putP (rdP tp n k 3 d (rdP tp n k 0 d s)) 13 0 else rdP tp n k 3 d (rdP tp n k 0 d s)) = q at h ⊢
        split
        · exact (h.tr Fk.next).tr Fk.rd
        · exact h
/-- alike where there is no fault; else the same fault -/
def Sx (x y : List Nat × xPS) : Prop := x.2.1 = y.2.1 ∧ (y.2.1 = 0 → x = y)
theorem Sx.rf {x : List Nat × xPS} : Sx x x := ⟨rfl, fun _ => rfl⟩
theorem Sx.tr {x y z : List Nat × xPS} (h1 : Sx x y) (h2 : Sx y z) : Sx x z := ⟨h1.1.trans h2.1, fun q => (h1.2 (h2.1.trans q)).trans (h2.2 q)⟩
def Nf (n j : Nat) (s : xPS) : Prop := s.1 = 0 → s.2.1 ≤ n ∧ n - s.2.1 + 1 ≤ j
def tpN (o : Nat) (os : List Nat) : Prop := os.headD 0 ≠ o
section TSR
variable {tp : Nat → Nat} {n : Nat}
theorem ts_fl {os os2 : List Nat} {s s' : xPS} {j j2 : Nat} {w w2 : Bool} (h : s.1 ≠ 0) (hk : Fk s s') : Sx (tsM tp n j w os s) (tsM tp n j2 w2 os2 s') := by
  have e := hk h
  rw [ts_f h, ts_f (by rw [e]; exact h)]
  exact ⟨e.symm, fun q => absurd (e.symm.trans q) h⟩
theorem an_tp {k : Nat} {os : List Nat} {s : xPS} (h : tpN k os) (hk : k ≠ 0) : anP k os s = (os, s) := by
  cases os with
  | nil => rfl
  | cons o os => exact if_neg h
theorem tp_c {k o : Nat} {os : List Nat} (h : o ≠ k) : tpN k (o :: os) := h
theorem ts_p9 {os : List Nat} {s : xPS} {j : Nat} (h : s.1 = 0) : tsM tp n (j + 1) false (9 :: os) s = tsM tp n (j + 1) false os (putP s 14 0) := by
  obtain ⟨f1, f2, f3⟩ := putP_f (s := s) (k := 14) (op := 0)
  have e3 : isW tp n (putP s 14 0) 3 = isW tp n s 3 := isW_pq f1 f2
  have e4 : isW tp n (putP s 14 0) 4 = isW tp n s 4 := isW_pq f1 f2
  have ea : anA (9 :: os) s = anA os (putP s 14 0) := by unfold anA; rw [an_y]; rfl
  have eo : anO (9 :: os) s = anO os (putP s 14 0) := by unfold anO; rw [ea]
  simp only [tsM, e3, e4, ea, eo, f1, h, ne_eq, not_true_eq_false, if_false, Bool.false_eq_true]
theorem ts_p10 {os : List Nat} {s : xPS} {j : Nat} (h : s.1 = 0) (h9 : tpN 9 os) : tsM tp n (j + 1) false (10 :: os) s = tsM tp n (j + 1) false os (putP s 12 0) := by
  obtain ⟨f1, f2, f3⟩ := putP_f (s := s) (k := 12) (op := 0)
  have e3 : isW tp n (putP s 12 0) 3 = isW tp n s 3 := isW_pq f1 f2
  have e4 : isW tp n (putP s 12 0) 4 = isW tp n s 4 := isW_pq f1 f2
  have ea : anA (10 :: os) s = anA os (putP s 12 0) := by unfold anA; rw [an_n (by decide), an_tp h9 (by decide), an_y]; rfl
  have eo : anO (10 :: os) s = anO os (putP s 12 0) := by unfold anO; rw [ea]
  simp only [tsM, e3, e4, ea, eo, f1, h, ne_eq, not_true_eq_false, if_false, Bool.false_eq_true]
theorem ts_p11 {os : List Nat} {s : xPS} {j : Nat} (h : s.1 = 0) (h9 : tpN 9 os) (h10 : tpN 10 os) (h3 : isW tp n s 3 = false) : tsM tp n (j + 1) false (11 :: os) s = tsM tp n (j + 1) false os (putP s 13 0) := by
  obtain ⟨f1, f2, f3⟩ := putP_f (s := s) (k := 13) (op := 0)
  have e3 : isW tp n (putP s 13 0) 3 = isW tp n s 3 := isW_pq f1 f2
  have e4 : isW tp n (putP s 13 0) 4 = isW tp n s 4 := isW_pq f1 f2
  have eo : anO (11 :: os) s = anO os (putP s 13 0) := by
    unfold anO anA
    rw [an_n (by decide), an_n (by decide), an_tp h9 (by decide), an_tp h10 (by decide), an_y]; rfl
  simp only [tsM, e3, e4, eo, f1, h3, h, ne_eq, not_true_eq_false, Bool.false_eq_true, if_false]
def TF (tp : Nat → Nat) (n k : Nat) : Prop := ∀ (d : Nat) (s : xPS) (os : List Nat) (j : Nat), nd n k 1 s → dpt os = d → Nf n j s → ((rdP tp n k 0 d s).1 = 0 → s.2.1 + 1 ≤ (rdP tp n k 0 d s).2.1 ∧ (rdP tp n k 0 d s).2.1 ≤ n) ∧ ∃ j', Nf n j' (rdP tp n k 0 d s) ∧ Sx (tsM tp n j true os s) (tsM tp n j' false os (rdP tp n k 0 d s))
def TA (tp : Nat → Nat) (n k : Nat) : Prop := ∀ (d : Nat) (s : xPS) (os : List Nat) (j : Nat), nd n k 1 s → dpt os = d → tpN 9 os → tpN 10 os → Nf n j s → isW tp n (rdP tp n k 3 d s) 3 = false ∧ ∃ j', Nf n j' (rdP tp n k 3 d s) ∧ Sx (tsM tp n j false os s) (tsM tp n j' false os (rdP tp n k 3 d s))
def TO (tp : Nat → Nat) (n k : Nat) : Prop := ∀ (v d : Nat) (s : xPS) (os : List Nat) (j : Nat), nd n k 2 s → dpt os = d → tpN 9 os → tpN 10 os → tpN 11 os → Nf n j s → isW tp n (rdP tp n k (if v = 0 then 1 else 2) d s) 3 = false ∧ isW tp n (rdP tp n k (if v = 0 then 1 else 2) d s) 4 = false ∧ ∃ j', Nf n j' (rdP tp n k (if v = 0 then 1 else 2) d s) ∧ Sx (tsM tp n j true (if v = 0 then os else 11 :: os) s) (tsM tp n j' false os (rdP tp n k (if v = 0 then 1 else 2) d s))
theorem ts_flx {os os2 : List Nat} {s s' : xPS} {j : Nat} {w : Bool} (h : s.1 ≠ 0) (hk : Fk s s') : ∃ j', Nf n j' s' ∧ Sx (tsM tp n j w os s) (tsM tp n j' false os2 s') := ⟨0, fun q => absurd ((hk h).symm.trans q) h, ts_fl h hk⟩
theorem ts_F {k : Nat} (hn : n ≤ 400) (hF : TF tp n k) (hO : TO tp n k) : TF tp n (k + 1) := by
  intro d s os j hnd hd hN
  by_cases h0 : s.1 = 0
  · obtain ⟨hp, hj⟩ := hN h0
    have hk := hnd.2 h0
    obtain ⟨j0, rfl⟩ : ∃ j0, j = j0 + 1 := ⟨j - 1, by omega⟩
    by_cases hdp : 10 ≤ d ∧ (isW tp n s 5 = true ∨ isS tp n s.1 s.2.1 91 = true)
    · rw [rd_deep hdp.2 hdp.1, ts_w h0, fc_deep hdp.2 (by omega)]
      exact ⟨fun q => absurd q failP_ne, ts_flx failP_ne Fk.rf⟩
    · rcases h5 : isW tp n s 5 with _ | _
      · rcases h6 : isS tp n s.1 s.2.1 91 with _ | _
        · rw [rd_cmp h5 h6, ts_w h0, fc_cmp h5 h6]
          refine ⟨fun q => (cmp_gt hn hp q).2, j0, fun q => ?_, Sx.rf⟩
          have := cmp_gt hn hp q
          omega
        · have hd10 : d < 10 := Nat.lt_of_not_le (fun q => hdp ⟨q, Or.inr h6⟩)
          have h7 := of_decide_eq_true h6
          have g := next_gt (tp := tp) (n := n) (s := s) hp (by omega)
          rw [rd_br h5 h6 hd10, ts_w h0, fc_br h5 h6 (by omega)]
          obtain ⟨a1, a2, j1, a3, a4⟩ := hO 0 (d + 1) (nextP tp n s) (12 :: os) j0 ⟨by omega, fun _ => by omega⟩ (by show dpt os + 1 = _; omega) (tp_c (by decide)) (tp_c (by decide)) (tp_c (by decide)) (fun _ => by omega)
          have hm := Mo.rd (tp := tp) (n := n) (k := k) (m := 1) (d := d + 1) (s := nextP tp n s)
          change isW tp n (rdP tp n k 1 (d + 1) (nextP tp n s)) 3 = false at a1
          change isW tp n (rdP tp n k 1 (d + 1) (nextP tp n s)) 4 = false at a2
          change Nf n j1 (rdP tp n k 1 (d + 1) (nextP tp n s)) at a3
          change Sx (tsM tp n j0 true (12 :: os) (nextP tp n s)) (tsM tp n j1 false (12 :: os) (rdP tp n k 1 (d + 1) (nextP tp n s))) at a4
          generalize rdP tp n k 1 (d + 1) (nextP tp n s) = s1 at *
          have hm2 := Mo.cls (tp := tp) (n := n) (s := s1)
          refine ⟨fun q => ?_, ?_⟩
          · have b1 := hm2 q
            have b2 := hm b1.1
            have b3 := b2.2.2 g.2.1
            have b4 := b1.2.2 b3
            omega
          · by_cases c1 : s1.1 = 0
            · obtain ⟨c2, c3⟩ := a3 c1
              obtain ⟨j2, rfl⟩ : ∃ j2, j1 = j2 + 1 := ⟨j1 - 1, by omega⟩
              rw [ts_b (os' := os) c1 a1 a2 rfl] at a4
              refine ⟨j2, fun q => ?_, a4⟩
              have b1 := hm2 q
              by_cases c4 : isS tp n s1.1 s1.2.1 93 = true
              · have c5 := of_decide_eq_true c4
                have c6 := next_gt (tp := tp) (n := n) (s := s1) c2 (by omega)
                have c7 : clsP tp n s1 = nextP tp n s1 := if_pos c4
                rw [c7]
                omega
              · have c7 : clsP tp n s1 = failP tp n s1 0 := if_neg c4
                rw [c7] at q
                exact absurd q failP_ne
            · obtain ⟨j2, b1, b2⟩ := ts_flx (tp := tp) (n := n) (os := 12 :: os) (os2 := os) (j := j1) (w := false) c1 (Fk.cls (tp := tp) (n := n) (s := s1))
              exact ⟨j2, b1, a4.tr b2⟩
      · have hd10 : d < 10 := Nat.lt_of_not_le (fun q => hdp ⟨q, Or.inl h5⟩)
        have h7 := isW_s h5
        have g := next_gt (tp := tp) (n := n) (s := s) hp (by omega)
        rw [rd_not h5 hd10, ts_w h0, fc_not h5 (by omega)]
        obtain ⟨a1, j1, a3, a4⟩ := hF (d + 1) (nextP tp n s) (9 :: os) j0 ⟨by omega, fun _ => by omega⟩ (by show dpt os + 1 = _; omega) (fun _ => by omega)
        change Sx (tsM tp n j0 true (9 :: os) (nextP tp n s)) _ at a4
        generalize rdP tp n k 0 (d + 1) (nextP tp n s) = s1 at *
        obtain ⟨f1, f2, f3⟩ := putP_f (s := s1) (k := 14) (op := 0)
        refine ⟨fun q => ?_, ?_⟩
        · rw [f2]
          have := a1 (f1.symm.trans q)
          omega
        · by_cases c1 : s1.1 = 0
          · obtain ⟨c2, c3⟩ := a3 c1
            obtain ⟨j2, rfl⟩ : ∃ j2, j1 = j2 + 1 := ⟨j1 - 1, by omega⟩
            rw [ts_p9 c1] at a4
            exact ⟨j2 + 1, fun q => by rw [f2]; omega, a4⟩
          · obtain ⟨j2, b1, b2⟩ := ts_flx (tp := tp) (n := n) (os := 9 :: os) (os2 := os) (j := j1) (w := false) c1 (Fk.put (k := 14) (op := 0) (s := s1))
            exact ⟨j2, b1, a4.tr b2⟩
  · exact ⟨fun q => absurd (Mo.rd q).1 h0, ts_flx h0 Fk.rd⟩
theorem ts_A {k : Nat} (hn : n ≤ 400) (hF : TF tp n k) (hA : TA tp n k) : TA tp n (k + 1) := by
  intro d s os j hnd hd h9 h10 hN
  by_cases h0 : s.1 = 0
  · obtain ⟨hp, hj⟩ := hN h0
    have hk := hnd.2 h0
    obtain ⟨j0, rfl⟩ : ∃ j0, j = j0 + 1 := ⟨j - 1, by omega⟩
    rcases h3 : isW tp n s 3 with _ | _
    · rw [rd_and0 h3]
      exact ⟨h3, j0 + 1, hN, Sx.rf⟩
    · have h7 := isW_s h3
      have g := next_gt (tp := tp) (n := n) (s := s) hp (by omega)
      have ea : anA os s = (os, s) := by unfold anA; rw [an_tp h9 (by decide), an_tp h10 (by decide)]
      rw [rd_and h3, ts_a h0 h3, ea]
      obtain ⟨a1, j1, a3, a4⟩ := hF d (nextP tp n s) (10 :: os) j0 ⟨by omega, fun _ => by omega⟩ (by show dpt os + 0 = _; omega) (fun _ => by omega)
      change Sx (tsM tp n j0 true (10 :: os) (nextP tp n s)) _ at a4
      show _ ∧ ∃ j', _ ∧ Sx (tsM tp n j0 true (10 :: os) (nextP tp n s)) _
      generalize rdP tp n k 0 d (nextP tp n s) = s1 at *
      obtain ⟨f1, f2, f3⟩ := putP_f (s := s1) (k := 12) (op := 0)
      by_cases c1 : s1.1 = 0
      · obtain ⟨c2, c3⟩ := a3 c1
        have c4 := a1 c1
        obtain ⟨j2, rfl⟩ : ∃ j2, j1 = j2 + 1 := ⟨j1 - 1, by omega⟩
        rw [ts_p10 c1 h9] at a4
        obtain ⟨b1, j3, b2, b3⟩ := hA d (putP s1 12 0) os (j2 + 1) ⟨by omega, fun _ => by rw [f2]; omega⟩ hd h9 h10 (fun _ => by rw [f2]; omega)
        exact ⟨b1, j3, b2, a4.tr b3⟩
      · have hk2 : Fk s1 (rdP tp n k 3 d (putP s1 12 0)) := Fk.put.tr Fk.rd
        obtain ⟨j2, b1, b2⟩ := ts_flx (tp := tp) (n := n) (os := 10 :: os) (os2 := os) (j := j1) (w := false) c1 hk2
        exact ⟨isW_n (by rw [hk2 c1]; exact c1), j2, b1, a4.tr b2⟩
  · have hk2 : Fk s (rdP tp n (k + 1) 3 d s) := Fk.rd
    exact ⟨isW_n (by rw [hk2 h0]; exact h0), ts_flx h0 hk2⟩
theorem ts_O {k : Nat} (hF : TF tp n k) (hA : TA tp n k) (hO : TO tp n k) : TO tp n (k + 1) := by
  intro v d s os j hnd hd h9 h10 h11 hN
  have hst9 : tpN 9 (if v = 0 then os else 11 :: os) := by split; exact h9; exact tp_c (by decide)
  have hst10 : tpN 10 (if v = 0 then os else 11 :: os) := by split; exact h10; exact tp_c (by decide)
  have hstd : dpt (if v = 0 then os else 11 :: os) = d := by split; exact hd; exact hd
  by_cases h0 : s.1 = 0
  · obtain ⟨hp, hj⟩ := hN h0
    have hk := hnd.2 h0
    obtain ⟨a1, j1, a3, a4⟩ := hF d s _ j ⟨by omega, fun _ => by omega⟩ hstd hN
    rw [rd_test]
    have hm3 := Mo.rd (tp := tp) (n := n) (k := k) (m := 3) (d := d) (s := rdP tp n k 0 d s)
    have hk3 : Fk (rdP tp n k 0 d s) (orP tp n k v d s) := by
      by_cases e : v = 0
      · rw [show orP tp n k v d s = rdP tp n k 3 d (rdP tp n k 0 d s) from if_pos e]; exact Fk.rd
      · rw [show orP tp n k v d s = putP (rdP tp n k 3 d (rdP tp n k 0 d s)) 13 0 from if_neg e]; exact Fk.rd.tr Fk.put
    by_cases c1 : (rdP tp n k 0 d s).1 = 0
    · have c4 := a1 c1
      obtain ⟨b1, j2, b2, b3⟩ := hA d (rdP tp n k 0 d s) _ j1 ⟨by omega, fun _ => by omega⟩ hstd hst9 hst10 a3
      have b4 := a4.tr b3
      have b5 : ∃ j3, Nf n j3 (orP tp n k v d s) ∧ Sx (tsM tp n j true (if v = 0 then os else 11 :: os) s) (tsM tp n j3 false os (orP tp n k v d s)) ∧ isW tp n (orP tp n k v d s) 3 = false ∧ ((orP tp n k v d s).1 = 0 → (rdP tp n k 0 d s).2.1 ≤ (orP tp n k v d s).2.1) := by
        by_cases e : v = 0
        · rw [show orP tp n k v d s = rdP tp n k 3 d (rdP tp n k 0 d s) from if_pos e, if_pos e]
          rw [if_pos e] at b4
          exact ⟨j2, b2, b4, b1, fun q => (hm3 q).2.1⟩
        · rw [show orP tp n k v d s = putP (rdP tp n k 3 d (rdP tp n k 0 d s)) 13 0 from if_neg e, if_neg e]
          rw [if_neg e] at b4
          generalize rdP tp n k 3 d (rdP tp n k 0 d s) = s2 at *
          obtain ⟨f1, f2, f3⟩ := putP_f (s := s2) (k := 13) (op := 0)
          have e3 : isW tp n (putP s2 13 0) 3 = false := (isW_pq f1 f2).trans b1
          by_cases c5 : s2.1 = 0
          · obtain ⟨c6, c7⟩ := b2 c5
            obtain ⟨j3, rfl⟩ : ∃ j3, j2 = j3 + 1 := ⟨j2 - 1, by omega⟩
            rw [ts_p11 c5 h9 h10 b1] at b4
            exact ⟨j3 + 1, fun q => by rw [f2]; omega, b4, e3, fun q => by rw [f2]; exact (hm3 c5).2.1⟩
          · obtain ⟨j3, g1, g2⟩ := ts_flx (tp := tp) (n := n) (os := 11 :: os) (os2 := os) (j := j2) (w := false) c5 (Fk.put (k := 13) (op := 0) (s := s2))
            exact ⟨j3, g1, b4.tr g2, e3, fun q => absurd (f1.symm.trans q) c5⟩
      obtain ⟨j3, g1, g2, g3, g4⟩ := b5
      generalize orP tp n k v d s = q2 at *
      rcases h4 : isW tp n q2 4 with _ | _
      · rw [if_neg (by decide)]
        exact ⟨g3, h4, j3, g1, g2⟩
      · rw [if_pos rfl]
        have h7 := isW_s h4
        obtain ⟨g5, g6⟩ := g1 h7.1
        have g7 := next_gt (tp := tp) (n := n) (s := q2) g5 (by omega)
        have g8 := g4 h7.1
        obtain ⟨j4, rfl⟩ : ∃ j4, j3 = j4 + 1 := ⟨j3 - 1, by omega⟩
        have eo : anO os q2 = (os, q2) := by unfold anO anA; rw [an_tp h9 (by decide), an_tp h10 (by decide), an_tp h11 (by decide)]
        rw [ts_o h7.1 g3 h4, eo] at g2
        obtain ⟨k1, k2, j5, k3, k4⟩ := hO 1 d (nextP tp n q2) os j4 ⟨by omega, fun _ => by omega⟩ hd h9 h10 h11 (fun _ => by omega)
        exact ⟨k1, k2, j5, k3, g2.tr k4⟩
    · have hk4 : Fk (rdP tp n k 0 d s) (if isW tp n (orP tp n k v d s) 4 = true then rdP tp n k 2 d (nextP tp n (orP tp n k v d s)) else orP tp n k v d s) := by
        split
        · exact (hk3.tr Fk.next).tr Fk.rd
        · exact hk3
      have hq := hk4 c1
      obtain ⟨j2, g1, g2⟩ := ts_flx (tp := tp) (n := n) (os := if v = 0 then os else 11 :: os) (os2 := os) (j := j1) (w := false) c1 hk4
      exact ⟨isW_n (by rw [hq]; exact c1), isW_n (by rw [hq]; exact c1), j2, g1, a4.tr g2⟩
  · have hk2 : Fk s (rdP tp n (k + 1) (if v = 0 then 1 else 2) d s) := Fk.rd
    exact ⟨isW_n (by rw [hk2 h0]; exact h0), isW_n (by rw [hk2 h0]; exact h0), ts_flx h0 hk2⟩
theorem ts_all (hn : n ≤ 400) : ∀ k, TF tp n k ∧ TA tp n k ∧ TO tp n k
  | 0 => ⟨fun d s os j h => absurd h.1 (by omega), fun d s os j h => absurd h.1 (by omega), fun v d s os j h => absurd h.1 (by omega)⟩
  | k + 1 => by
    obtain ⟨h1, h2, h3⟩ := ts_all hn k
    exact ⟨ts_F hn h1 h3, ts_A hn h1 h2, ts_O h1 h2 h3⟩
theorem ts_test (hn : n ≤ 400) {s : xPS} (hp : s.1 = 0 → s.2.1 ≤ n) : (tsM tp n 401 true [] s).2.1 = (rdP tp n 802 1 0 s).1 ∧ ((rdP tp n 802 1 0 s).1 = 0 → tsM tp n 401 true [] s = ([], rdP tp n 802 1 0 s)) := by
  obtain ⟨a1, a2, j, a3, a4⟩ := (ts_all (tp := tp) hn 802).2.2 0 0 s [] 401 ⟨by omega, fun _ => by omega⟩ rfl (fun q => absurd q (by decide)) (fun q => absurd q (by decide)) (fun q => absurd q (by decide)) (fun q => ⟨hp q, by omega⟩)
  change isW tp n (rdP tp n 802 1 0 s) 3 = false at a1
  change isW tp n (rdP tp n 802 1 0 s) 4 = false at a2
  change Nf n j (rdP tp n 802 1 0 s) at a3
  change Sx (tsM tp n 401 true [] s) (tsM tp n j false [] (rdP tp n 802 1 0 s)) at a4
  generalize rdP tp n 802 1 0 s = s1 at *
  by_cases c1 : s1.1 = 0
  · have c3 := a3 c1
    obtain ⟨j2, rfl⟩ : ∃ j2, j = j2 + 1 := ⟨j - 1, by omega⟩
    rw [ts_e (os := []) c1 a1 a2 (by intro os' q; exact absurd q (by simp [anO, anA, anP]))] at a4
    exact ⟨a4.1, fun q => a4.2 q⟩
  · rw [ts_f c1] at a4
    exact ⟨a4.1, fun q => absurd q c1⟩
end TSR
