/-! ===== hall, rule, image, back ===== -/
section PNL
variable {K : xG} {G : xHp} {h x y : Nat} {v w u : Int32}
theorem rr_len {tp : Nat → Nat} {n : Nat} (hn : n ≤ 400) : ∀ (k bf : Nat) (s : xPS), Hb n 0 s → (rrL tp n k bf s).1 = 0 → (rrL tp n k bf s).2.2.2.length < 300
  | 0, _, _, hb, q => hb.len hn q
  | k + 1, bf, s, hb, q => by
    rcases hS : isS tp n s.1 s.2.1 59 with _ | _
    · rw [rrL_f hS] at q ⊢
      exact hb.len hn q
    · rw [rrL_t hS] at q ⊢
      exact rr_len hn k (bf + 1) _ (fun z => (rc_out hn hb.next z).2.2.1 z) q
theorem rul_len {tp : Nat → Nat} {n : Nat} (hn : n ≤ 400) (q : (rulP tp n).1 = 0) : (rulP tp n).2.2.2.length < 400 := by
  have h0 : Hb n 0 ((0, 0, 0, []) : xPS) := fun _ => ⟨Nat.zero_le _, by decide, by decide⟩
  have h1 : Hb n 0 (rcP tp n (0, 0, 0, []) 0) := fun z => (rc_out hn h0 z).2.2.1 z
  have := rr_len hn 12 1 _ h1 (ee_0 q).1
  show (rrL tp n 12 1 (rcP tp n (0, 0, 0, []) 0)).2.2.2.length < 400
  omega
theorem P_rule (hL : LI G h x y) : Pr K x y 31 12 2 401 mX11_rule mX12_rule [] h G := by
  obtain ⟨lo, tp, tn, rs, c, im, hxy, hC, hR, hI, hJ⟩ := hL
  obtain ⟨hF, h6, htn, htp⟩ := hC.fo
  refine x_callpost (fun v h' G' hq => ?_) (Cls_rule (K := K) hC (fun q => rul_len htn q))
  obtain ⟨G1, ⟨hC1, hf⟩, e1, e2, e3⟩ := hq
  subst e1
  have e2 := e2.symm
  subst e2
  have e3 := e3.symm
  subst e3
  obtain ⟨hl, r, sc, A, F, wa, sa, hM0, hD⟩ := hR
  have hM := hM0.move (G' := G1) (fun q q1 q2 => hf q (by omega) (by omega))
  refine ⟨_, rfl, ⟨_, hM.1⟩, ?_⟩
  obtain ⟨d1, d2, d3, d4, d5, d6, d7, d8⟩ := id hD
  by_cases c6 : rs.length < 6
  · rw [if_pos c6] at hC1 ⊢
    refine x_callpost (fun w h2 G2 hq2 => ?_) (Md_rule_y hM d6 d8 d7 (tp := tp) ⟨d4, htp, htn, c6⟩)
    obtain ⟨⟨⟨A', F'⟩, G3⟩, ⟨m1, m2, m3, m4, m5, m6, m7⟩, e1, e2, e3⟩ := hq2
    subst e1
    have e2 := e2.symm
    subst e2
    have e3 := e3.symm
    subst e3
    refine ⟨rfl, ?_⟩
    have kA : ∀ k, ¬ (28 ≤ k ∧ k ≤ 34) → A' k = A k := m2.1
    have d1' : CoR c hl r sc A' (F' 49) := by
      show CoR c hl r sc A' (F' 49)
      have m6' : F' 49 = F 49 := m6
      rw [m6']
      exact d1.at' (kA 15 (by omega)) (kA 16 (by omega)) (kA 17 (by omega)) (kA 37 (by omega))
    have d3' : ImR A' im := d3.kp (kA 45 (by omega)) (fun j _ => by rw [kA 44 (by omega)])
    have d4' : TpE (A' 27) tp := by rw [kA 27 (by omega)]; exact d4
    have d5' : NB A' := d5.kp (fun k k1 k2 => kA k (by omega))
    have old : ∀ w, w < rs.length → ∃ cs, RefR A' w cs ∧ (∀ c ∈ cs, ClW c) ∧ rs[w]? = some (spC cs) := fun w hw => by
      obtain ⟨cs, a1, a2, a3⟩ := d2 w hw
      exact ⟨cs, a1.kp m2 hw, a2, a3⟩
    by_cases q0 : (rulP tp tn).1 = 0
    · rw [if_pos q0] at hC1
      rw [if_pos ⟨c6, q0⟩]
      have m4' : F' 31 = nI (rs.length + 1) := by
        have : F' 31 = nI (if (rulP tp tn).1 = 0 then rs.length + 1 else rs.length) := m4
        rw [if_pos q0] at this; exact this
      refine LI.mk (tp := tp) (tn := 0) (rs := rs ++ [(rulP tp tn).2.2.2]) hxy hC1 m1 ⟨d1', fun w hw => ?_, d3', d4', d5', m3, m4'.trans (by rw [List.length_append]; rfl), m5⟩ hI hJ
      rw [List.length_append] at hw
      by_cases q1 : w < rs.length
      · obtain ⟨cs, a1, a2, a3⟩ := old w q1
        exact ⟨cs, a1, a2, by rw [List.getElem?_append_left q1]; exact a3⟩
      · have hw2 : w = rs.length := by
          have : w < rs.length + 1 := hw
          omega
        obtain ⟨cs, a1, a2, a3⟩ := m7 q0
        subst hw2
        exact ⟨cs, a1, a2, by rw [← a3]; simp⟩
    · rw [if_neg q0] at hC1
      rw [if_neg (fun z => q0 z.2)]
      have m4' : F' 31 = nI rs.length := by
        have : F' 31 = nI (if (rulP tp tn).1 = 0 then rs.length + 1 else rs.length) := m4
        rw [if_neg q0] at this; exact this
      exact LI.mk (tp := tp) (tn := 0) (rs := rs) hxy hC1 m1 ⟨d1', old, d3', d4', d5', m3, m4', m5⟩ hI hJ
  · rw [if_neg c6] at hC1 ⊢
    rw [if_neg (fun z => c6 z.1)]
    refine x_callpost (fun w h2 G2 hq2 => ?_) (Md_rule_n hM (by rw [d7, show rs.length = 6 by omega]))
    obtain ⟨e1, e2, e3⟩ := hq2
    subst e1
    have e2 := e2.symm
    subst e2
    have e3 := e3.symm
    subst e3
    exact ⟨rfl, LI.mk hxy hC1 hM hD hI hJ⟩
theorem P_hall (hL : LI G h x y) : Pr K x y 7 8 0 0 mX11_hall mX12_hall [] h G := by
  obtain ⟨lo, tp, tn, rs, c, im, hxy, hC, hR, hI, hJ⟩ := hL
  obtain ⟨hF, h6, htn, htp⟩ := hC.fo
  refine x_callpost (fun v h' G' hq => ?_) (Cls_hall (K := K) hC)
  obtain ⟨⟨hk, G1⟩, ⟨⟨-, hb⟩, hC1, hf⟩, e1, e2, e3⟩ := hq
  subst e1
  have e2 := e2.symm
  subst e2
  have e3 := e3.symm
  subst e3
  have hf' : ∀ a, x + 51 ≤ a → a < lo → G1 a = G a := hf
  have hb' : ∀ i j, hk i j < 1000000 := hb
  obtain ⟨hl, r, sc, A, F, wa, sa, hM0, hD⟩ := hR
  have hM := hM0.move (G' := G1) (fun q q1 q2 => hf' q (by omega) (by omega))
  refine ⟨_, rfl, ⟨_, hM.1⟩, ?_⟩
  obtain ⟨d1, d2, d3, d4, d5, d6, d7, d8⟩ := id hD
  obtain ⟨p0, f0, sl0, en0, de0, co0, op0, hM1⟩ := hM.pf d6 d8
  refine x_callpost (fun w h2 G2 hq2 => ?_) (Md_hall (hk := hk) d4 htp htn hM1 d5 (fun q => ⟨(hall_J hb' q).1.2.2.2.2.2, (hall_J hb' q).1.1⟩))
  obtain ⟨⟨⟨hl', A', F'⟩, G3⟩, ⟨mm, m2, m3, m4, m5, m6⟩, e1, e2, e3⟩ := hq2
  subst e1
  have e2 := e2.symm
  subst e2
  have e3 := e3.symm
  subst e3
  refine ⟨rfl, ?_⟩
  have kA : ∀ k, ¬ (19 ≤ k ∧ k ≤ 26) → A' k = A k := m2
  have n27 : F' 27 = nI 0 := m4
  have n31 : F' 31 = nI rs.length := by
    have : F' 31 = pF (upd F 36 (nI 12)) tn p0 f0 sl0 en0 de0 co0 op0 31 := m5
    rw [this, ← d7]
    unfold pF
    rw [upd_off (by omega), upd_off (by omega), upd_off (by omega), upd_off (by omega), upd_off (by omega), upd_off (by omega), upd_off (by omega), upd_off (by omega), upd_off (by omega)]
  have n36 : F' 36 = nI 12 := by
    have : F' 36 = pF (upd F 36 (nI 12)) tn p0 f0 sl0 en0 de0 co0 op0 36 := m6
    rw [this]
    unfold pF
    rw [upd_off (by omega), upd_off (by omega), upd_off (by omega), upd_off (by omega), upd_off (by omega), upd_off (by omega), upd_off (by omega), upd_off (by omega), upd_at]
  have d2' : RulesR A' rs := d2.kp (fun k k1 k2 => kA k (by omega))
  have d3' : ImR A' im := d3.kp (kA 45 (by omega)) (fun j _ => by rw [kA 44 (by omega)])
  have d4' : TpE (A' 27) tp := by rw [kA 27 (by omega)]; exact d4
  by_cases q0 : (hallP tp tn hk).1 = 0
  · obtain ⟨j1, j2⟩ := hall_J hb' q0
    have hO : HallOk (hallP tp tn hk).2 := j1.ok j2
    have hI2 : CoreI (openC c (hallP tp tn hk).2) := open_I hI hO j2.1 (fun t z => by have := j1.2.1 t z; omega) (fun s z => (j1.2.2.2.2.1 s z).2) j1.2.2.2.1
    have hC2 : ClsAt G1 h x lo tp 0 rs (openC c (hallP tp tn hk).2) im := by
      have : ClsAt G1 h x lo tp 0 rs (if (hallP tp tn hk).1 = 0 then openC c (hallP tp tn hk).2 else c) im := hC1
      rw [if_pos q0] at this; exact this
    have mm' : MW G1 G3 y hl' (clearR hl') (0, sc.2) A' F' wa sa ∧ VisH (hallP tp tn hk).2 hl' ∧ (∀ j, 16 ≤ j → hl' 3 j = hl 3 j) ∧ F' 49 = nI 0 := by
      have z := mm
      rw [if_pos q0] at z
      exact z
    obtain ⟨w1, w2, -, w4⟩ := mm'
    have hsc : (0, sc.2) = ((openC c (hallP tp tn hk).2).2.1.2, (openC c (hallP tp tn hk).2).2.2.1.2.2, (openC c (hallP tp tn hk).2).2.2.1.2.1) := by rw [d1.2.2.1]; rfl
    exact LI.mk hxy hC2 w1 ⟨⟨w2, RE.clear (fun s z => (w2.2.1 s z).2), hsc, fun k z => absurd z (Nat.not_lt_zero k), w4, fun i z => absurd z (Nat.not_lt_zero i)⟩, d2', d3', d4', m3, n27, n31, n36⟩ hI2 hJ
  · have hC2 : ClsAt G1 h x lo tp 0 rs c im := by
      have : ClsAt G1 h x lo tp 0 rs (if (hallP tp tn hk).1 = 0 then openC c (hallP tp tn hk).2 else c) im := hC1
      rw [if_neg q0] at this; exact this
    have mm' : MW G1 G3 y hl r sc A' F' wa sa ∧ F' 49 = pF (upd F 36 (nI 12)) tn p0 f0 sl0 en0 de0 co0 op0 49 := by
      have z := mm
      rw [if_neg q0] at z
      exact z
    obtain ⟨w1, w2⟩ := mm'
    have w3 : F' 49 = F 49 := by
      rw [w2]
      unfold pF
      rw [upd_off (by omega), upd_off (by omega), upd_off (by omega), upd_off (by omega), upd_off (by omega), upd_off (by omega), upd_off (by omega), upd_off (by omega), upd_off (by omega)]
    exact LI.mk hxy hC2 w1 ⟨by rw [w3]; exact d1.at' (kA 15 (by omega)) (kA 16 (by omega)) (kA 17 (by omega)) (kA 37 (by omega)), d2', d3', d4', m3, n27, n31, n36⟩ hI hJ
theorem P_image (hL : LI G h x y) : Pr K x y 4 2 17 887 mX11_image mX12_image [.int v] h G := by
  obtain ⟨lo, tp, tn, rs, c, im, hxy, hC, hR, hI, hJ⟩ := hL
  obtain ⟨hF, h6, htn, htp⟩ := hC.fo
  refine x_callpost (fun v' h' G' hq => ?_) (Cls_image (K := K) (v := v) hC)
  obtain ⟨⟨h1, G1⟩, ⟨-, hC1, hf⟩, e1, e2, e3⟩ := hq
  subst e1
  have e2 := e2.symm
  subst e2
  have e3 := e3.symm
  subst e3
  have hf' : ∀ a, x + 51 ≤ a → a < lo → G1 a = G a := hf
  obtain ⟨hl, r, sc, A, F, wa, sa, hM0, hD⟩ := hR
  have hM := hM0.move (G' := G1) (fun q q1 q2 => hf' q (by omega) (by omega))
  refine ⟨_, rfl, ⟨_, hM.1⟩, ?_⟩
  obtain ⟨d1, d2, d3, d4, d5, d6, d7, d8⟩ := id hD
  have hO := d1.ho hI
  by_cases q0 : inR v 4 = true
  · have hC2 : ClsAt G1 h1 x lo tp tn rs c (fun i => if i = thN v then some c else im i) := by
      have z := hC1
      rw [if_pos q0] at z; exact z
    rw [if_pos q0]
    obtain ⟨k, hk, rfl⟩ := inR_of q0
    rw [thN_nI (by omega)] at hC2
    have m := Md_image_y (K := K) (h := h1) hM hO hk
    rw [(d1.rv hI).z] at m
    refine x_callpost (fun w h2 G2 hq2 => ?_) m
    obtain ⟨G3, m1, e1, e2, e3⟩ := hq2
    subst e1
    have e2 := e2.symm
    subst e2
    have e3 := e3.symm
    subst e3
    refine ⟨rfl, ?_⟩
    have v1 : vp_nar .boolean (nI 1) = nI 1 := by first | rfl | decide +kernel
    rw [v1] at m1
    have f49 : cF F 0 (900 * k + 826) 49 = F 49 := by unfold cF; rw [upd_off (by omega), upd_off (by omega)]
    have f27 : cF F 0 (900 * k + 826) 27 = F 27 := by unfold cF; rw [upd_off (by omega), upd_off (by omega)]
    have f31 : cF F 0 (900 * k + 826) 31 = F 31 := by unfold cF; rw [upd_off (by omega), upd_off (by omega)]
    have f36 : cF F 0 (900 * k + 826) 36 = F 36 := by unfold cF; rw [upd_off (by omega), upd_off (by omega)]
    generalize hAk : setA (setA A 45 (upd (A 45) k (nI 1))) 38 (upd ((setA A 45 (upd (A 45) k (nI 1))) 38) 0 (F 49)) = Ak at m1
    have kk : ∀ i, i ≠ 45 → i ≠ 38 → Ak i = A i := fun i i1 i2 => by rw [← hAk, set_ne i2, set_ne i1]
    have k45 : Ak 45 = upd (A 45) k (nI 1) := by rw [← hAk, set_ne (by omega), set_eq]
    have k38 : Ak 38 0 = F 49 := by rw [← hAk, set_eq, upd_at]
    have x44 : ovr Ak hl r sc 44 = A 44 := by
      rw [show ovr Ak hl r sc 44 = Ak 44 from rfl]
      exact kk 44 (by omega) (by omega)
    have x38 : ovr Ak hl r sc 38 = Ak 38 := rfl
    have hout : ∀ j, j < 900 * k ∨ 900 * k + 826 ≤ j → svI (ovr Ak hl r sc) (900 * k) 20 j = A 44 j := fun j hj => by
      rw [svI_out 20 (by rw [show ofs 20 = 826 by decide]; exact hj), x44]
    have hin : ∀ i j, i < 20 → j < mln (ord i) → svI (ovr Ak hl r sc) (900 * k) 20 (900 * k + ofs i + j) = ovr Ak hl r sc (ord i) j := fun i j hi hj => svI_in hj 20 hi
    have i50 : svI (ovr Ak hl r sc) (900 * k) 20 (900 * k + 50) = F 49 := by
      have := hin 9 0 (by omega) (by decide)
      rw [show ofs 9 = 50 by decide, show ord 9 = 38 by rfl, x38, k38] at this
      exact this
    refine LI.mk hxy hC2 m1 ⟨by rw [f49]; exact d1.at' (by rw [set_ne (by omega)]; exact kk _ (by omega) (by omega)) (by rw [set_ne (by omega)]; exact kk _ (by omega) (by omega)) (by rw [set_ne (by omega)]; exact kk _ (by omega) (by omega)) (by rw [set_ne (by omega)]; exact kk _ (by omega) (by omega)), d2.kp (fun i i1 i2 => by rw [set_ne (by omega)]; exact kk _ (by omega) (by omega)), fun k' hk' => ?_, by rw [set_ne (by omega), kk _ (by omega) (by omega)]; exact d4, d5.kp (fun i i1 i2 => by rw [set_ne (by omega)]; exact kk _ (by omega) (by omega)), f27.trans d6, f31.trans d7, f36.trans d8⟩ hI (fun i ck z => ?_)
    · rw [set_eq, set_ne (show 45 ≠ 44 by omega), k45]
      by_cases e : k' = k
      · subst e
        refine Or.inr ⟨c, hl, r, sc, Ak, if_pos rfl, upd_at, hM.hB, hin, ?_⟩
        rw [i50]
        exact d1.at' (kk _ (by omega) (by omega)) (kk _ (by omega) (by omega)) (kk _ (by omega) (by omega)) (kk _ (by omega) (by omega))
      · rw [upd_off e]
        rcases d3 k' hk' with ⟨a1, a2⟩ | ⟨ck, hk2, rk, sck, Ak2, a1, a2, a3, a4, a5⟩
        · exact Or.inl ⟨(if_neg e).trans a1, a2⟩
        · refine Or.inr ⟨ck, hk2, rk, sck, Ak2, (if_neg e).trans a1, a2, a3, fun i j hi hj => ?_, ?_⟩
          · have := ofs_hi i hi
            rw [hout _ (by omega)]
            exact a4 i j hi hj
          · rw [hout _ (by omega)]
            exact a5
    · have z2 : (if i = k then some c else im i) = some ck := z
      by_cases e : i = k
      · rw [if_pos e] at z2
        cases z2
        exact hI
      · rw [if_neg e] at z2
        exact hJ i ck z2
  · have hC2 : ClsAt G1 h1 x lo tp tn rs c im := by
      have z := hC1
      rw [if_neg q0] at z; exact z
    rw [if_neg q0]
    refine x_callpost (fun w h2 G2 hq2 => ?_) (Md_image_n hM hO (by simpa using q0))
    obtain ⟨e1, e2, e3⟩ := hq2
    subst e1
    have e2 := e2.symm
    subst e2
    have e3 := e3.symm
    subst e3
    exact ⟨rfl, LI.mk hxy hC2 hM hD hI hJ⟩
theorem P_back (hL : LI G h x y) : Pr K x y 4 2 0 0 mX11_back mX12_back [.int v] h G := by
  obtain ⟨lo, tp, tn, rs, c, im, hxy, hC, hR, hI, hJ⟩ := hL
  obtain ⟨hF, h6, htn, htp⟩ := hC.fo
  have k := Cls_back (K := K) (v := v) hC
  by_cases q0 : inR v 4 = true
  · rw [if_pos q0, if_pos q0] at k
    obtain ⟨i, hi, rfl⟩ := inR_of q0
    rw [thN_nI (by omega)] at k
    rcases hm : im i with _ | ck
    · rw [hm] at k
      refine Pr_act hxy hR hI hJ k (fun hl r sc A F wa sa G' hM hD => ac_r hM hD (Md_back_m hM (hD.1.ho hI) hi ?_))
      rcases hD.2.2.1 i hi with ⟨a1, a2⟩ | ⟨ck, hk2, rk, sck, Ak2, a1, a2, a3, a4, a5⟩
      · exact a2
      · rw [hm] at a1; cases a1
    · rw [hm] at k
      have hIk := hJ i ck hm
      refine Pr_act hxy hR hIk hJ k (fun hl r sc A F wa sa G' hM hD => ?_)
      obtain ⟨d1, d2, d3, d4, d5, d6, d7, d8⟩ := id hD
      rcases d3 i hi with ⟨a1, a2⟩ | ⟨ck2, hk2, rk, sck, Ak2, a1, a2, a3, a4, a5⟩
      · rw [hm] at a1; cases a1
      · rw [hm] at a1
        cases a1
        have m := Md_back_y (K := K) (h := h) hM (d1.ho hI) a3 hi a2 a4
        rw [(a5.rv hIk).z] at m
        have bo : ∀ j, ¬ (j = 15 ∨ j = 16 ∨ j = 17 ∨ j = 37 ∨ j = 38) → bkA A Ak2 j = A j := fun j hj => if_neg hj
        have bi : ∀ j, (j = 15 ∨ j = 16 ∨ j = 17 ∨ j = 37 ∨ j = 38) → bkA A Ak2 j = Ak2 j := fun j hj => if_pos hj
        have f49 : ∀ F : Nat → Int32, cF (upd F 49 (A 44 (900 * i + 50))) 1 (900 * i + 826) 49 = A 44 (900 * i + 50) := fun F => by unfold cF; rw [upd_off (by omega), upd_off (by omega), upd_at]
        have fo : ∀ (F : Nat → Int32) (j : Nat), j ≠ 49 → j ≠ 63 → j ≠ 64 → cF (upd F 49 (A 44 (900 * i + 50))) 1 (900 * i + 826) j = F j := fun F j j1 j2 j3 => by unfold cF; rw [upd_off j2, upd_off j3, upd_off j1]
        have hRf : RfD tp tn rs ck im hk2 rk sck (bkA A Ak2) (cF (upd F 49 (A 44 (900 * i + 50))) 1 (900 * i + 826)) := ⟨by rw [f49]; exact a5.at' (bi _ (by omega)) (bi _ (by omega)) (bi _ (by omega)) (bi _ (by omega)), d2.kp (fun j j1 j2 => bo _ (by omega)), d3.kp (bo _ (by omega)) (fun j _ => by rw [bo 44 (by omega)]), by rw [bo 27 (by omega)]; exact d4, d5.kp (fun j j1 j2 => bo _ (by omega)), by rw [fo _ _ (by omega) (by omega) (by omega)]; exact d6, by rw [fo _ _ (by omega) (by omega) (by omega)]; exact d7, by rw [fo _ _ (by omega) (by omega) (by omega)]; exact d8⟩
        exact ac_q hRf m
  · rw [if_neg q0, if_neg q0] at k
    exact Pr_act hxy hR hI hJ k (fun hl r sc A F wa sa G' hM hD => ac_r hM hD (Md_back_n hM (hD.1.ho hI) (by simpa using q0)))
end PNL
