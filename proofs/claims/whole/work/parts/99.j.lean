/-! ===== calls that show ===== -/
section PJL
variable {K : xG} {G : xHp} {h x y : Nat} {v w u : Int32}
theorem ac_r {M : xM} {d tn : Nat} {av : List Value} {G' : xHp} {a : Int32} {tp : Nat → Nat} {rs : List (List Nat)} {c : xCo} {im : Nat → Option xCo} {hl : xHl} {r : xRw} {sc : Nat × Nat × Int32} {A : Nat → Nat → Int32} {F : Nat → Int32} {wa sa : Nat → Int64} (hM : MW G' G' y hl r sc A F wa sa) (hD : RfD tp tn rs c im hl r sc A F) (k : xCall K M d 0 0 av h G' (xRet (some (.int a)) h G')) : xCall K M d 0 0 av h G' (AcP y h G' a tp tn rs c im) := x_callpost (fun w h2 G2 hq => by
  obtain ⟨e1, e2, e3⟩ := hq
  subst e1
  have e2 := e2.symm
  subst e2
  have e3 := e3.symm
  subst e3
  exact ⟨rfl, rfl, hl, r, sc, A, F, wa, sa, hM, hD⟩) k
theorem ac_q {M : xM} {d tn : Nat} {av : List Value} {G' : xHp} {a : Int32} {tp : Nat → Nat} {rs : List (List Nat)} {c : xCo} {im : Nat → Option xCo} {hl : xHl} {r : xRw} {sc : Nat × Nat × Int32} {A : Nat → Nat → Int32} {F : Nat → Int32} {wa sa : Nat → Int64} (hD : RfD tp tn rs c im hl r sc A F) (k : xCall K M d 0 0 av h G' (mdQ G' h y (some (.int a)) hl r sc A F wa sa)) : xCall K M d 0 0 av h G' (AcP y h G' a tp tn rs c im) := x_callpost (fun w h2 G2 hq => by
  obtain ⟨G3, q, e1, e2, e3⟩ := hq
  subst e1
  have e2 := e2.symm
  subst e2
  have e3 := e3.symm
  subst e3
  exact ⟨rfl, rfl, hl, r, sc, A, F, wa, sa, q, hD⟩) k
theorem ac_x {M : xM} {d tn : Nat} {av : List Value} {G' : xHp} {a : Int32} {tp : Nat → Nat} {rs : List (List Nat)} {c : xCo} {im : Nat → Option xCo} {hl : xHl} {r : xRw} {sc : Nat × Nat × Int32} {A : Nat → Nat → Int32} {F : Nat → Int32} (hD : RfD tp tn rs c im hl r sc A F) (k : xCall K M d 0 0 av h G' (mdX G' h y (some (.int a)) hl r sc A F)) : xCall K M d 0 0 av h G' (AcP y h G' a tp tn rs c im) := x_callpost (fun w h2 G2 hq => by
  obtain ⟨⟨⟨wa, sa⟩, G3⟩, q, e1, e2, e3⟩ := hq
  subst e1
  have e2 := e2.symm
  subst e2
  have e3 := e3.symm
  subst e3
  exact ⟨rfl, rfl, hl, r, sc, A, F, wa, sa, q, hD⟩) k
theorem P_thing (hL : LI G h x y) : Pr K x y 1 2 0 0 mX11_thing mX12_thing [.int v, .int w] h G := by
  obtain ⟨lo, tp, tn, rs, c, im, hxy, hC, hR, hI, hJ⟩ := hL
  refine Pr_ask hxy hR hI hJ (Cls_thing hC hI.1) (fun hl r sc A F wa sa G' hM hD => mdK_r hM ?_)
  rw [← thing_cg (v := v) (w := w) (hD.1.vg hI) (hD.1.rv hI)]
  exact Md_thing hM (hD.1.ho hI)
theorem P_mender (hL : LI G h x y) : Pr K x y 1 2 0 0 mX11_mender mX12_mender [.int v, .int w] h G := by
  obtain ⟨lo, tp, tn, rs, c, im, hxy, hC, hR, hI, hJ⟩ := hL
  refine Pr_ask hxy hR hI hJ (Cls_mender hC hI.1) (fun hl r sc A F wa sa G' hM hD => mdK_r hM ?_)
  rw [← mender_cg (v := v) (w := w) hI.hO hD.1.1 (hD.1.vg hI) (fun z => by
    have := inR_lt z
    have := hI.c3
    omega) (hD.1.rv hI)]
  exact Md_mender hM (hD.1.ho hI)
theorem P_sort (hL : LI G h x y) : Pr K x y 1 2 0 0 mX11_sort mX12_sort [.int v, .int w] h G := by
  obtain ⟨lo, tp, tn, rs, c, im, hxy, hC, hR, hI, hJ⟩ := hL
  refine Pr_ask hxy hR hI hJ (Cls_sort hC hI.1) (fun hl r sc A F wa sa G' hM hD => mdK_r hM ?_)
  rw [← sort_cg (v := v) (w := w) (hD.1.vg hI) (hD.1.rv hI)]
  exact Md_sort hM (hD.1.ho hI)
theorem P_count (hL : LI G h x y) : Pr K x y 1 1 0 0 mX11_count mX12_count [.int w] h G := by
  obtain ⟨lo, tp, tn, rs, c, im, hxy, hC, hR, hI, hJ⟩ := hL
  refine Pr_ask hxy hR hI hJ (Cls_count hC hI.1) (fun hl r sc A F wa sa G' hM hD => mdK_r hM ?_)
  have m := Md_count (K := K) (h := h) (rc := rs.length) (pm := c.2.2.2.2) (tn := tn) (w := w) hM (hD.1.ho hI) hD.2.2.2.2.2.2.1 hD.1.2.2.2.2.1 hD.2.2.2.2.2.1
  have s1 : sc.1 = c.2.1.2 := by rw [hD.1.2.2.1]
  have s2 : sc.2.1 = c.2.2.1.2.2 := by rw [hD.1.2.2.1]
  have s3 : sc.2.2 = c.2.2.1.2.1 := by rw [hD.1.2.2.1]
  rw [count_cg (hD.1.vg hI) (hD.1.rv hI), s1, s2, s3] at m
  exact m
theorem P_seed (hL : LI G h x y) : Pr K x y 0 0 0 0 mX11_seed mX12_seed [.int v] h G := by
  obtain ⟨lo, tp, tn, rs, c, im, hxy, hC, hR, hI, hJ⟩ := hL
  by_cases e : v < 0
  · have k := Cls_seed (K := K) (v := v) hC
    rw [if_pos e, if_pos e] at k
    exact Pr_act hxy hR hI hJ k (fun hl r sc A F wa sa G' hM hD => ac_r hM hD (Md_seed_n hM (hD.1.ho hI) e))
  · have hv : ∃ n, n < 2 ^ 31 ∧ v = nI n := by
      have h0 : 0 ≤ v.toInt := by
        have := Int32.le_iff_toInt_le.mp (Int32.not_lt.mp e)
        exact this
      have := v.toInt_lt
      exact ⟨v.toInt.toNat, by omega, xsw_to v _ (by omega)⟩
    obtain ⟨n, hn, rfl⟩ := hv
    have k := Cls_seed (K := K) (v := nI n) hC
    rw [if_neg e, if_neg e, thN_nI hn] at k
    refine Pr_act hxy hR (seed_I hI hn) hJ k (fun hl r sc A F wa sa G' hM hD => ?_)
    obtain ⟨⟨c1, c2, c3, c4, c5, c6⟩, hD2⟩ := id hD
    have m := Md_seed_y (K := K) (h := h) hM (hD.1.ho hI) hn
    subst c3
    exact ac_q ⟨⟨c1, c2, rfl, c4, c5, c6⟩, hD2⟩ m
theorem P_end (hL : LI G h x y) : Pr K x y 0 0 0 0 mX11_end mX12_end [.int v] h G := by
  obtain ⟨lo, tp, tn, rs, c, im, hxy, hC, hR, hI, hJ⟩ := hL
  obtain ⟨-, -, htn, -⟩ := hC.fo
  have k := Cls_end (K := K) (v := v) hC
  by_cases e : inR v (tn + 1) = true
  · rw [if_pos e, if_pos e] at k
    obtain ⟨n, hn, rfl⟩ := inR_of e
    rw [thN_nI (by omega)] at k
    refine Pr_act hxy hR hI hJ k (fun hl r sc A F wa sa G' hM hD => ?_)
    obtain ⟨d1, d2, d3, d4, d5, d6, d7, d8⟩ := id hD
    exact ac_q ⟨by rw [upd_off (by omega)]; exact d1, d2, d3, d4, d5, upd_at, by rw [upd_off (by omega)]; exact d7, by rw [upd_off (by omega)]; exact d8⟩ (Md_end_y hM (hD.1.ho hI) d6 htn (by omega))
  · rw [if_neg e, if_neg e] at k
    exact Pr_act hxy hR hI hJ k (fun hl r sc A F wa sa G' hM hD => ac_r hM hD (Md_end_n hM (hD.1.ho hI) hD.2.2.2.2.2.1 htn (by simpa using e)))
theorem NB.set {A : Nat → Nat → Int32} {k : Nat} {f : Nat → Int32} (h : NB A) (hk : k < 20 ∨ 26 < k) : NB (setA A k f) := h.kp (fun i h1 h2 => if_neg (by omega))
theorem RulesR.set {A : Nat → Nat → Int32} {rs : List (List Nat)} {k : Nat} {f : Nat → Int32} (h : RulesR A rs) (hk : k < 28 ∨ 33 < k) : RulesR (setA A k f) rs := h.kp (fun i h1 h2 => if_neg (by omega))
theorem ImR.set {A : Nat → Nat → Int32} {im : Nat → Option xCo} {k : Nat} {f : Nat → Int32} (h : ImR A im) (hk : k < 44) : ImR (setA A k f) im := h.kp (if_neg (by omega)) (fun j _ => by rw [show setA A k f 44 = A 44 from if_neg (by omega)])
theorem set_ne {A : Nat → Nat → Int32} {k i : Nat} {f : Nat → Int32} (h : i ≠ k) : setA A k f i = A i := if_neg h
theorem set_eq {A : Nat → Nat → Int32} {k : Nat} {f : Nat → Int32} : setA A k f k = f := if_pos rfl
theorem P_feed {z1 z2 : Int32} (hL : LI G h x y) : Pr K x y 1 1 0 0 mX11_feed mX12_feed [.int v, .int w, .int u, .int z1, .int z2] h G := by
  obtain ⟨lo, tp, tn, rs, c, im, hxy, hC, hR, hI, hJ⟩ := hL
  obtain ⟨-, -, htn, -⟩ := hC.fo
  have k := Cls_feed (K := K) (a := v) (b := w) (d := u) (e := z1) (f := z2) hC
  by_cases e : tn + 20 ≤ 400
  · rw [if_pos e, if_pos e, if_pos e] at k
    refine Pr_act hxy hR hI hJ k (fun hl r sc A F wa sa G' hM hD => ?_)
    obtain ⟨d1, d2, d3, d4, d5, d6, d7, d8⟩ := id hD
    refine ac_q ⟨?_, d2.set (by omega), d3.set (by omega), ?_, d5.set (by omega), upd_at, by rw [upd_off (by omega)]; exact d7, by rw [upd_off (by omega)]; exact d8⟩ (Md_feed_y hM d6 e)
    · rw [upd_off (by omega)]
      exact d1.at' (set_ne (by omega)) (set_ne (by omega)) (set_ne (by omega)) (set_ne (by omega))
    · rw [set_eq]; exact d4.feed tn v w u z1 z2
  · rw [if_neg e, if_neg e, if_neg e] at k
    exact Pr_act hxy hR hI hJ k (fun hl r sc A F wa sa G' hM hD => ac_r hM hD (Md_feed_n hM hD.2.2.2.2.2.1 htn (by omega)))
theorem P_force (hL : LI G h x y) : Pr K x y 1 1 0 0 mX11_force mX12_force [.int v] h G := by
  obtain ⟨lo, tp, tn, rs, c, im, hxy, hC, hR, hI, hJ⟩ := hL
  obtain ⟨-, h6, -, -⟩ := hC.fo
  have k := Cls_force (K := K) (v := v) hC hI.1
  have hI2 := force_I (rc := rs.length) (v := v) hI
  unfold forceS at k hI2
  by_cases e : v = -1 ∨ inR v rs.length = true
  · rw [if_pos e] at k hI2
    refine Pr_act hxy hR hI2 hJ k (fun hl r sc A F wa sa G' hM hD => ?_)
    obtain ⟨⟨c1, c2, c3, c4, c5, c6⟩, hD2⟩ := id hD
    have m := Md_force_y (K := K) (h := h) hM (hD.1.ho hI) hD.2.2.2.2.2.2.1 h6 e
    subst c3
    exact ac_q ⟨⟨c1, c2, rfl, c4, c5, c6⟩, hD2⟩ m
  · rw [if_neg e] at k
    exact Pr_act hxy hR hI hJ k (fun hl r sc A F wa sa G' hM hD => ac_r hM hD (Md_force_n hM (hD.1.ho hI) hD.2.2.2.2.2.2.1 h6 e))
theorem P_book (hL : LI G h x y) : Pr K x y 1 2 0 0 mX11_book mX12_book [.int u, .int v, .int w] h G := by
  obtain ⟨lo, tp, tn, rs, c, im, hxy, hC, hR, hI, hJ⟩ := hL
  have k := Cls_book (K := K) (v := u) (w := v) (y := w) hC hI.1
  have hI2 := book_I (u := u) (v := v) (w := w) hI
  have hb10 := hI.1.2.2.2.2.1.1
  unfold bookS at k hI2
  by_cases e0 : u = -1
  · rw [if_pos e0] at k hI2
    subst e0
    refine Pr_act hxy hR hI2 hJ k (fun hl r sc A F wa sa G' hM hD => ?_)
    obtain ⟨⟨c1, c2, c3, c4, c5, c6⟩, hD2⟩ := id hD
    have m := Md_book_c (K := K) (h := h) (v := v) (w := w) hM (hD.1.ho hI)
    subst c3
    exact ac_q ⟨⟨c1, c2, rfl, fun k hk => absurd hk (Nat.not_lt_zero k), c5, c6⟩, hD2⟩ m
  · rw [if_neg e0] at k hI2
    by_cases e : inR u 400 = true ∧ inR v (c.1.1 0 4) = true ∧ inR w 5 = true ∧ c.2.1.2 < 10
    · rw [if_pos e] at k hI2
      refine Pr_act hxy hR hI2 hJ k (fun hl r sc A F wa sa G' hM hD => ?_)
      obtain ⟨⟨c1, c2, c3, c4, c5, c6⟩, d2, d3, d4, d5, d6⟩ := id hD
      obtain ⟨e1, e2, e3, e4⟩ := e
      have o4 := hI.hO.2.2.1
      obtain ⟨n1, m1, rfl⟩ := inR_of e1
      obtain ⟨n2, m2, rfl⟩ := inR_of e2
      obtain ⟨n3, m3, rfl⟩ := inR_of e3
      have hs : sc.1 = c.2.1.2 := by rw [c3]
      have m := Md_book_y (K := K) (h := h) (n := n1) (t := n2) (w := n3) hM (hD.1.ho hI) m1 (by rw [c1.1 4 (by omega)]; exact m2) m3 (by rw [hs]; exact e4)
      rw [hs] at m
      rw [thN_nI (by omega), thN_nI (by omega), thN_nI (by omega)]
      have hB : BkR (setA (setA (setA A 15 (upd (A 15) c.2.1.2 (nI n1))) 16 (upd (A 16) c.2.1.2 (nI n2))) 17 (upd (A 17) c.2.1.2 (nI n3))) (bkAdd c.2.1.1 c.2.1.2 n1 n2 n3) (c.2.1.2 + 1) := by
        intro k hk
        have hk2 : k < c.2.1.2 + 1 := hk
        show upd (A 15) c.2.1.2 (nI n1) k = nI (bkAdd c.2.1.1 c.2.1.2 n1 n2 n3 0 k) ∧ upd (A 16) c.2.1.2 (nI n2) k = nI (bkAdd c.2.1.1 c.2.1.2 n1 n2 n3 1 k) ∧ upd (A 17) c.2.1.2 (nI n3) k = nI (bkAdd c.2.1.1 c.2.1.2 n1 n2 n3 2 k)
        unfold bkAdd
        by_cases q : k = c.2.1.2
        · subst q
          rw [upd_at, upd_at, upd_at, if_pos rfl, if_pos rfl, if_pos rfl, if_pos rfl, if_neg (by omega), if_pos rfl, if_neg (by omega), if_neg (by omega)]
          exact ⟨rfl, rfl, rfl⟩
        · rw [upd_off q, upd_off q, upd_off q, if_neg q, if_neg q, if_neg q]
          exact c4 k (by omega)
      have hRf : RfD tp tn rs (c.1, (bkAdd c.2.1.1 c.2.1.2 n1 n2 n3, c.2.1.2 + 1), c.2.2) im hl r (c.2.1.2 + 1, sc.2) (setA (setA (setA A 15 (upd (A 15) c.2.1.2 (nI n1))) 16 (upd (A 16) c.2.1.2 (nI n2))) 17 (upd (A 17) c.2.1.2 (nI n3))) F := ⟨⟨c1, c2, by rw [c3], hB, c5, c6⟩, ((d2.set (by omega)).set (by omega)).set (by omega), ((d3.set (by omega)).set (by omega)).set (by omega), d4, ((d5.set (by omega)).set (by omega)).set (by omega), d6⟩
      exact ac_q hRf m
    · rw [if_neg e] at k
      refine Pr_act hxy hR hI hJ k (fun hl r sc A F wa sa G' hM hD => ?_)
      have hs : sc.1 = c.2.1.2 := by rw [hD.1.2.2.1]
      exact ac_r hM hD (Md_book_n hM (hD.1.ho hI) e0 (by rw [hs]; exact hb10) (by rw [hs, hD.1.1.1 4 (by omega)]; exact e))
end PJL
