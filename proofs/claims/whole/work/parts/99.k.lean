/-! ===== acts ===== -/
section PKL
variable {K : xG} {G : xHp} {h x y : Nat} {v w u : Int32}
theorem keepF_o {F : Nat → Int32} {pm i : Nat} (h : i ≠ 49 ∧ i ≠ 50 ∧ i ≠ 51) : keepF F pm i = F i := by
  unfold keepF mF
  rw [upd_off (by omega), upd_off (by omega), upd_off (by omega)]
theorem keepF_49 {F : Nat → Int32} {pm : Nat} : keepF F pm 49 = nI (keepN pm) := by
  unfold keepF
  exact upd_at
theorem keepN_m {pm : Nat} (h : pm ≤ 20) : keepN pm = min (pm + 1) 20 := by
  unfold keepN
  split <;> omega
theorem RfD.act {c : xCo} {hl : xHl} {r r' rk' : xRw} {sc : Nat × Nat × Int32} {A : Nat → Nat → Int32} {F : Nat → Int32} {rs : List (List Nat)} {im : Nat → Option xCo} {tp : Nat → Nat} {tn pm : Nat} (h : RfD tp tn rs c im hl r sc A F) (hpm : c.2.2.2.2 = pm) (h20 : pm ≤ 20) (hr : RE c.1.1 rk' r') : RfD tp tn rs (rowC (pushC c) rk') im hl r' sc (setA A 37 (keepP (A 37) pm r)) (keepF F pm) := by
  obtain ⟨⟨c1, c2, c3, c4, c5, c6⟩, d2, d3, d4, d5, d6, d7, d8⟩ := h
  subst hpm
  refine ⟨⟨c1, hr, c3, c4.cong (set_ne (by omega)) (set_ne (by omega)) (set_ne (by omega)), by rw [keepF_49, keepN_m h20]; rfl, fun i hi => ?_⟩, d2.set (by omega), d3.set (by omega), by rw [set_ne (by omega)]; exact d4, d5.set (by omega), by rw [keepF_o (by omega)]; exact d6, by rw [keepF_o (by omega)]; exact d7, by rw [keepF_o (by omega)]; exact d8⟩
  have hi2 : i < min (c.2.2.2.2 + 1) 20 := hi
  show RE c.1.1 (pushL c.1.2 c.2.2.2.1 i) (fun j => setA A 37 (keepP (A 37) c.2.2.2.2 r) 37 (35 * (min (c.2.2.2.2 + 1) 20 - 1 - i) + j))
  rw [set_eq]
  intro j hj hj2
  unfold keepP layF shF
  by_cases e : c.2.2.2.2 = 20
  · simp only [if_pos e]
    cases i with
    | zero =>
      rw [if_pos (by omega)]
      show r _ = c.1.2 j
      rw [show 35 * (min (c.2.2.2.2 + 1) 20 - 1 - 0) + j - 665 = j by omega]
      exact c2 j hj hj2
    | succ i =>
      rw [if_neg (by omega), if_pos (by omega), show 35 * (min (c.2.2.2.2 + 1) 20 - 1 - (i + 1)) + j + 35 = 35 * (c.2.2.2.2 - 1 - i) + j by omega]
      exact c6 i (by omega) j hj hj2
  · simp only [if_neg e]
    cases i with
    | zero =>
      rw [if_pos (by omega)]
      show r _ = c.1.2 j
      rw [show 35 * (min (c.2.2.2.2 + 1) 20 - 1 - 0) + j - 35 * c.2.2.2.2 = j by omega]
      exact c2 j hj hj2
    | succ i =>
      rw [if_neg (by omega), show 35 * (min (c.2.2.2.2 + 1) 20 - 1 - (i + 1)) + j = 35 * (c.2.2.2.2 - 1 - i) + j by omega]
      exact c6 i (by omega) j hj hj2
theorem CoreI.pm {c : xCo} (hI : CoreI c) : c.2.2.2.2 ≤ 20 := hI.1.2.2.2.2.2.2.2.2.1
theorem r0_999 {c : xCo} (hI : CoreI c) : c.1.2 0 < nI 999 ↔ ¬ c.1.2 0 = nI 999 := by
  obtain ⟨m, hm, e⟩ := hI.1.2.1.2.1
  rw [e, nI_ltm (by omega) (by omega)]
  constructor
  · intro z z2
    have := congrArg thN z2
    rw [thN_nI (by omega), thN_nI (by omega)] at this
    omega
  · intro z
    by_cases q : m = 999
    · subst q; exact absurd rfl z
    · omega
theorem P_minute (hL : LI G h x y) : Pr K x y 4 8 0 0 mX11_minute mX12_minute [] h G := by
  obtain ⟨lo, tp, tn, rs, c, im, hxy, hC, hR, hI, hJ⟩ := hL
  obtain ⟨hF, h6, -, -⟩ := hC.fo
  have k := Cls_minute (K := K) hC hI.1
  have hI2 := minute_I (rs := rs) hI
  unfold minuteS at k hI2
  by_cases e : c.2.2.1.1 = true ∧ c.1.2 0 < nI 999
  · rw [if_pos e] at k hI2
    refine Pr_act hxy hR hI2 hJ k (fun hl r sc A F wa sa G' hM hD => ?_)
    have hrv := hD.1.rv hI
    have h0 := hrv.z
    rw [← (goMin_cg (rv := rvI rs c.2.2.1.2.1) hI.hO (hD.1.vg hI) hrv).2]
    exact ac_x (hD.act rfl hI.pm (hD.1.2.1.go hI.hO (hD.1.vg hI) hI.1.2.1.1)) (Md_minute_y hM (hD.1.ho hI) hD.1.2.2.2.2.1 hI.pm (hD.2.1.rv (by rw [hD.1.2.2.1]) hF h6) (hD.1.ro hI) ((hD.1.told hI).mp e.1) (by rw [h0]; exact (r0_999 hI).mp e.2))
  · rw [if_neg e] at k
    refine Pr_act hxy hR hI hJ k (fun hl r sc A F wa sa G' hM hD => ?_)
    have h0 := (hD.1.rv hI).z
    refine ac_r hM hD (Md_minute_n hM (hD.1.ho hI) ?_)
    rw [← hD.1.told hI, h0, ← r0_999 hI]
    exact e
theorem P_give (hL : LI G h x y) : Pr K x y 2 4 0 0 mX11_give mX12_give [.int v, .int w] h G := by
  obtain ⟨lo, tp, tn, rs, c, im, hxy, hC, hR, hI, hJ⟩ := hL
  have k := Cls_give (K := K) (v := v) (w := w) hC hI.1
  have hI2 := give_I (v := v) (w := w) hI
  have o3 := hI.hO.2.1
  have o4 := hI.hO.2.2.1
  unfold giveS at k hI2
  by_cases e : inR v (c.1.1 0 3) = true ∧ inR w (c.1.1 0 4) = true ∧ c.1.2 (5 + thN v) = -1 ∧ canT c.1.1 c.1.2 (thN v) (thN w) = true
  · rw [if_pos e] at k hI2
    obtain ⟨e1, e2, e3, e4⟩ := e
    obtain ⟨q, hq, rfl⟩ := inR_of e1
    obtain ⟨t, ht, rfl⟩ := inR_of e2
    rw [thN_nI (by omega)] at e3
    rw [thN_nI (by omega), thN_nI (by omega)] at e4 k hI2
    refine Pr_act hxy hR hI2 hJ k (fun hl r sc A F wa sa G' hM hD => ?_)
    have hv := hD.1.vg hI
    have hrv := hD.1.rv hI
    rw [← effS_cg hI.hO hv hq ht]
    exact ac_q (hD.act rfl hI.pm (hD.1.2.1.begin hI.hO hv hq ht)) (Md_give_y hM (hD.1.ho hI) hD.1.2.2.2.2.1 hI.pm (by rw [hv.1 3 (by omega)]; exact hq) (by rw [hrv.m hq]; exact e3) (by rw [hv.1 4 (by omega)]; exact ht) (by rw [canT_cg hI.hO hv hrv hq ht]; exact e4))
  · rw [if_neg e] at k
    refine Pr_act hxy hR hI hJ k (fun hl r sc A F wa sa G' hM hD => ?_)
    have hv := hD.1.vg hI
    have hrv := hD.1.rv hI
    refine ac_r hM hD (Md_give_n hM (hD.1.ho hI) (fun z => e ?_))
    rw [hv.1 3 (by omega), hv.1 4 (by omega)] at z
    obtain ⟨z1, z2, z3, z4⟩ := z
    exact ⟨z1, z3, by rw [← hrv.m (inR_lt z1)]; exact z2, by rw [← canT_cg hI.hO hv hrv (inR_lt z1) (inR_lt z3)]; exact z4⟩
theorem P_putDown (hL : LI G h x y) : Pr K x y 2 4 0 0 mX11_putDown mX12_putDown [.int v] h G := by
  obtain ⟨lo, tp, tn, rs, c, im, hxy, hC, hR, hI, hJ⟩ := hL
  have k := Cls_putDown (K := K) (v := v) hC hI.1
  have hI2 := putDown_I (v := v) hI
  have o3 := hI.hO.2.1
  have o4 := hI.hO.2.2.1
  unfold putDownS at k hI2
  by_cases e : inR v (c.1.1 0 3) = true ∧ ¬ c.1.2 (5 + thN v) = -1
  · rw [if_pos e] at k hI2
    obtain ⟨e1, e2⟩ := e
    obtain ⟨q, hq, rfl⟩ := inR_of e1
    rw [thN_nI (by omega)] at e2 k hI2
    obtain ⟨t, ht, hw, -⟩ := (hI.1.2.1.1.2.1 q hq).resolve_left e2
    rw [hw, thN_nI (by omega)] at k hI2
    refine Pr_act hxy hR hI2 hJ k (fun hl r sc A F wa sa G' hM hD => ?_)
    have hv := hD.1.vg hI
    have hrv := hD.1.rv hI
    exact ac_q (hD.act rfl hI.pm hD.1.2.1.lay) (Md_putDown_y hM (hD.1.ho hI) hD.1.2.2.2.2.1 hI.pm (by rw [hv.1 3 (by omega)]; exact hq) (by rw [hrv.m hq]; exact hw) (by omega))
  · rw [if_neg e] at k
    refine Pr_act hxy hR hI hJ k (fun hl r sc A F wa sa G' hM hD => ?_)
    have hv := hD.1.vg hI
    have hrv := hD.1.rv hI
    refine ac_r hM hD (Md_putDown_n hM (hD.1.ho hI) (fun z => e ?_))
    rw [hv.1 3 (by omega)] at z
    exact ⟨z.1, by rw [← hrv.m (inR_lt z.1)]; exact z.2⟩
theorem P_bring (hL : LI G h x y) : Pr K x y 2 4 0 0 mX11_bring mX12_bring [.int v] h G := by
  obtain ⟨lo, tp, tn, rs, c, im, hxy, hC, hR, hI, hJ⟩ := hL
  have k := Cls_bring (K := K) (v := v) hC hI.1
  have hI2 := bring_I (v := v) hI
  have o2 := hI.hO.1
  unfold bringS at k hI2
  by_cases e : inR v (c.1.1 0 2) = true ∧ c.1.2 (1 + thN v) < nI 99
  · rw [if_pos e] at k hI2
    obtain ⟨e1, e2⟩ := e
    obtain ⟨q, hq, rfl⟩ := inR_of e1
    rw [thN_nI (by omega)] at e2 k hI2
    refine Pr_act hxy hR hI2 hJ k (fun hl r sc A F wa sa G' hM hD => ?_)
    have hv := hD.1.vg hI
    have hp := (hD.1.rv hI).p hq
    have m := Md_bring_y (K := K) (h := h) hM (hD.1.ho hI) hD.1.2.2.2.2.1 hI.pm (t := q) (by rw [hv.1 2 (by omega)]; exact hq) (by rw [hp]; exact e2)
    have hrow : RE c.1.1 (upd c.1.2 (1 + q) (c.1.2 (1 + q) + nI 1)) (upd r (1 + q) (r (1 + q) + nI 1)) := hD.1.2.1.up (by rw [hp])
    rw [hp] at m hrow
    exact ac_q (hD.act rfl hI.pm hrow) m
  · rw [if_neg e] at k
    refine Pr_act hxy hR hI hJ k (fun hl r sc A F wa sa G' hM hD => ?_)
    have hv := hD.1.vg hI
    have hrv := hD.1.rv hI
    refine ac_r hM hD (Md_bring_n hM (hD.1.ho hI) (fun z => e ?_))
    rw [hv.1 2 (by omega)] at z
    exact ⟨z.1, by rw [← hrv.p (inR_lt z.1)]; exact z.2⟩
theorem P_coffee (hL : LI G h x y) : Pr K x y 2 4 0 0 mX11_coffee mX12_coffee [.int v, .int w] h G := by
  obtain ⟨lo, tp, tn, rs, c, im, hxy, hC, hR, hI, hJ⟩ := hL
  have k := Cls_coffee (K := K) (v := v) (w := w) hC hI.1
  have hI2 := coffee_I (v := v) (w := w) hI
  have o3 := hI.hO.2.1
  unfold coffeeS at k hI2
  by_cases e : inR v (c.1.1 0 3) = true ∧ ¬ w < nI 1 ∧ ¬ nI 60 < w ∧ c.1.2 (5 + thN v) = -1 ∧ ¬ 0 < c.1.2 (13 + thN v)
  · rw [if_pos e] at k hI2
    obtain ⟨e1, e2, e3, e4, e5⟩ := e
    obtain ⟨q, hq, rfl⟩ := inR_of e1
    rw [thN_nI (by omega)] at e4 e5 k hI2
    refine Pr_act hxy hR hI2 hJ k (fun hl r sc A F wa sa G' hM hD => ?_)
    have hv := hD.1.vg hI
    have hrv := hD.1.rv hI
    have m := Md_coffee_y (K := K) (h := h) hM (hD.1.ho hI) hD.1.2.2.2.2.1 hI.pm (q := q) (w := w) (by rw [hv.1 3 (by omega)]; exact hq) (by rw [hrv.m hq]; exact e4) (by rw [hrv.c hq]; exact e5) e2 e3
    have hrow : RE c.1.1 (upd c.1.2 (13 + q) w) (upd r (13 + q) w) := hD.1.2.1.up rfl
    have hc : cntF (fun q1 => decide (0 < upd r (13 + q) w (13 + q1))) (hl 0 3) = cntF (fun q1 => decide (0 < upd c.1.2 (13 + q) w (13 + q1))) (c.1.1 0 3) := by
      rw [hv.1 3 (by omega)]
      exact cnt_cg (fun i hi => by rw [(hrow.vw hI.hO).c hi])
    rw [hc] at m
    exact ac_q (hD.act rfl hI.pm hrow) m
  · rw [if_neg e] at k
    refine Pr_act hxy hR hI hJ k (fun hl r sc A F wa sa G' hM hD => ?_)
    have hv := hD.1.vg hI
    have hrv := hD.1.rv hI
    refine ac_r hM hD (Md_coffee_n hM (hD.1.ho hI) (fun z => e ?_))
    rw [hv.1 3 (by omega)] at z
    obtain ⟨z1, z2, z3, z4, z5⟩ := z
    exact ⟨z1, z4, z5, by rw [← hrv.m (inR_lt z1)]; exact z2, by rw [← hrv.c (inR_lt z1)]; exact z3⟩
theorem P_undo (hL : LI G h x y) : Pr K x y 2 3 0 0 mX11_undo mX12_undo [] h G := by
  obtain ⟨lo, tp, tn, rs, c, im, hxy, hC, hR, hI, hJ⟩ := hL
  have k := Cls_undo (K := K) hC hI.1
  have hI2 := undo_I hI
  have hpm := hI.pm
  unfold undoS at k hI2
  by_cases e : c.2.2.2.2 = 0
  · rw [if_pos e] at k
    refine Pr_act hxy hR hI hJ k (fun hl r sc A F wa sa G' hM hD => ?_)
    have h49 : F 49 = nI 0 := by rw [hD.1.2.2.2.2.1, e]
    obtain ⟨d1, d2, d3, d4, d5, d6, d7, d8⟩ := id hD
    exact ac_q ⟨by rw [upd_at, ← h49]; exact d1, d2, d3, d4, d5, by rw [upd_off (by omega)]; exact d6, by rw [upd_off (by omega)]; exact d7, by rw [upd_off (by omega)]; exact d8⟩ (Md_undo0 hM h49)
  · rw [if_neg e] at k hI2
    refine Pr_act hxy hR hI2 hJ k (fun hl r sc A F wa sa G' hM hD => ?_)
    obtain ⟨⟨c1, c2, c3, c4, c5, c6⟩, d2, d3, d4, d5, d6, d7, d8⟩ := id hD
    have m := Md_undo1 (K := K) (h := h) (k := c.2.2.2.2 - 1) hM (by rw [c5, show c.2.2.2.2 - 1 + 1 = c.2.2.2.2 by omega]) (by omega)
    have hRf : RfD tp tn rs ((c.1.1, c.2.2.2.1 0), c.2.1, c.2.2.1, (popL c.2.2.2.1, c.2.2.2.2 - 1)) im hl (ldF (A 37) r (35 * (c.2.2.2.2 - 1)) 35) sc A (mF (upd F 49 (nI (c.2.2.2.2 - 1))) 1 (35 * (c.2.2.2.2 - 1) + 35)) := by
      refine ⟨⟨c1, fun j j1 j2 => ?_, c3, c4, ?_, fun i hi => ?_⟩, d2, d3, d4, d5, ?_, ?_, ?_⟩
      · show ldF (A 37) r (35 * (c.2.2.2.2 - 1)) 35 j = c.2.2.2.1 0 j
        unfold ldF
        rw [if_pos j1]
        exact c6 0 (by omega) j j1 j2
      · unfold mF
        rw [upd_off (by omega), upd_off (by omega), upd_at]
      · have hi2 : i < c.2.2.2.2 - 1 := hi
        have := c6 (i + 1) (by omega)
        rw [show c.2.2.2.2 - 1 - (i + 1) = c.2.2.2.2 - 1 - 1 - i by omega] at this
        exact this
      · unfold mF
        rw [upd_off (by omega), upd_off (by omega), upd_off (by omega)]; exact d6
      · unfold mF
        rw [upd_off (by omega), upd_off (by omega), upd_off (by omega)]; exact d7
      · unfold mF
        rw [upd_off (by omega), upd_off (by omega), upd_off (by omega)]; exact d8
    exact ac_q hRf m
end PKL
