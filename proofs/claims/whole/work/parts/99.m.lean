/-! ===== what is asked ===== -/
section PML
variable {K : xG} {G : xHp} {h x y : Nat} {v w u : Int32}
theorem RfD.rvv {c : xCo} {hl : xHl} {r : xRw} {sc : Nat × Nat × Int32} {A : Nat → Nat → Int32} {F : Nat → Int32} {rs : List (List Nat)} {im : Nat → Option xCo} {tp : Nat → Nat} {tn : Nat} (h : RfD tp tn rs c im hl r sc A F) (hF : FoOk rs c.2.2.1.2.1) (h6 : rs.length ≤ 6) : RvR A sc (rvC rs c) := h.2.1.rv (by rw [h.1.2.2.1]) hF h6
theorem P_ahead (hL : LI G h x y) : Pr K x y 6 9 0 0 mX11_ahead mX12_ahead [.int v, .int u, .int w] h G := by
  obtain ⟨lo, tp, tn, rs, c, im, hxy, hC, hR, hI, hJ⟩ := hL
  obtain ⟨hF, h6, -, -⟩ := hC.fo
  have k := Cls_ahead (K := K) (v := v) (n := u) (w := w) hC hI.1
  have o3 := hI.hO.2.1
  have o4 := hI.hO.2.2.1
  refine Pr_ask hxy hR hI hJ k (fun hl r sc A F wa sa G' hM hD => ?_)
  have hv := hD.1.vg hI
  have hrv := hD.1.rv hI
  have hO := hD.1.ho hI
  have hV := hD.rvv hF h6
  have hrow := hD.1.ro hI
  have ht := hD.1.told hI
  have e3 : hl 0 3 = c.1.1 0 3 := hv.1 3 (by omega)
  have e4 : hl 0 4 = c.1.1 0 4 := hv.1 4 (by omega)
  unfold aheadS
  by_cases e : c.2.2.1.1 = true ∧ inR u 401 = true
  · rw [if_pos e]
    obtain ⟨b1, b2⟩ := e
    have b1' := ht.mp b1
    obtain ⟨n, hn, rfl⟩ := inR_of b2
    rw [thN_nI (by omega)]
    have hg := goN_cg (rv := rvC rs c) hI.hO hv hrv n
    by_cases w0 : w = nI 0
    · subst w0
      rw [if_pos rfl]
      by_cases e2 : inR v (c.1.1 0 4) = true
      · rw [if_pos e2]
        obtain ⟨t, ht', rfl⟩ := inR_of e2
        rw [thN_nI (by omega), ← hg.hw ht']
        exact mdK_x hM.hB AS.kp FS.rf.cx (Md_ahead_y0 hM hO hV hrow b1' (by omega) (by omega))
      · rw [if_neg e2]
        refine mdK_r hM (Md_ahead_n hM hO (fun z => ?_))
        rcases z.2.1 with ⟨-, q⟩ | ⟨q, -⟩ | q
        · rw [e4] at q; exact e2 q
        · exact absurd q (by decide)
        · exact absurd q (by decide)
    · rw [if_neg w0]
      by_cases w1 : w = nI 1
      · subst w1
        rw [if_pos rfl]
        by_cases e2 : inR v (c.1.1 0 3) = true
        · rw [if_pos e2]
          obtain ⟨t, ht', rfl⟩ := inR_of e2
          rw [thN_nI (by omega), ← hg.m ht']
          exact mdK_x hM.hB AS.kp FS.rf.cx (Md_ahead_y1 hM hO hV hrow b1' (by omega) (by omega))
        · rw [if_neg e2]
          refine mdK_r hM (Md_ahead_n hM hO (fun z => ?_))
          rcases z.2.1 with ⟨q, -⟩ | ⟨-, q⟩ | q
          · exact absurd q (by decide)
          · rw [e3] at q; exact e2 q
          · exact absurd q (by decide)
      · rw [if_neg w1]
        by_cases w2 : w = nI 2
        · subst w2
          rw [if_pos rfl, ← saved_cg hv hg]
          exact mdK_x hM.hB AS.kp FS.rf.cx (Md_ahead_y2 hM hO hV hrow b1' (by omega))
        · rw [if_neg w2]
          refine mdK_r hM (Md_ahead_n hM hO (fun z => ?_))
          rcases z.2.1 with ⟨q, -⟩ | ⟨q, -⟩ | q
          · exact w0 q
          · exact w1 q
          · exact w2 q
  · rw [if_neg e]
    exact mdK_r hM (Md_ahead_n hM hO (fun z => e ⟨ht.mpr z.1, z.2.2⟩))
theorem P_done (hL : LI G h x y) : Pr K x y 6 8 0 0 mX11_done mX12_done [.int v] h G := by
  obtain ⟨lo, tp, tn, rs, c, im, hxy, hC, hR, hI, hJ⟩ := hL
  obtain ⟨hF, h6, -, -⟩ := hC.fo
  have o4 := hI.hO.2.2.1
  refine Pr_ask hxy hR hI hJ (Cls_done (K := K) (v := v) hC hI.1) (fun hl r sc A F wa sa G' hM hD => ?_)
  have hv := hD.1.vg hI
  have e4 : hl 0 4 = c.1.1 0 4 := hv.1 4 (by omega)
  unfold doneC
  by_cases e : inR v (c.1.1 0 4) = true
  · rw [if_pos e]
    obtain ⟨t, ht, rfl⟩ := inR_of e
    rw [thN_nI (by omega), ← doneS_cg hI.hO hv ht (hD.1.rv hI)]
    exact mdK_x hM.hB AS.kp FS.rf.cx.cx (Md_done_y hM (hD.1.ho hI) (hD.rvv hF h6) (hD.1.ro hI) (by omega))
  · rw [if_neg e]
    exact mdK_r hM (Md_done_n hM (hD.1.ho hI) (by rw [e4]; simpa using e))
theorem P_waits (hL : LI G h x y) : Pr K x y 6 8 0 0 mX11_waits mX12_waits [.int v] h G := by
  obtain ⟨lo, tp, tn, rs, c, im, hxy, hC, hR, hI, hJ⟩ := hL
  obtain ⟨hF, h6, -, -⟩ := hC.fo
  have o4 := hI.hO.2.2.1
  obtain ⟨mi, hrc, hmi⟩ := hI.2.1.2.2
  refine Pr_ask hxy hR hI hJ (Cls_waits (K := K) (v := v) hC hI.1) (fun hl r sc A F wa sa G' hM hD => ?_)
  have hv := hD.1.vg hI
  have hrv := hD.1.rv hI
  have e4 : hl 0 4 = c.1.1 0 4 := hv.1 4 (by omega)
  unfold waitsC
  by_cases e : inR v (c.1.1 0 4) = true ∧ c.1.2 (21 + thN v) ≤ nI 1
  · rw [if_pos e]
    obtain ⟨t, ht, rfl⟩ := inR_of e.1
    have e2 := e.2
    rw [thN_nI (by omega)] at e2 ⊢
    rw [← wtF_cg hI.hO hv ht 400 c.1.2 r hrv]
    exact Md_waits_y hM (hD.1.ho hI) (hD.rvv hF h6) (hD.1.ro hI) (by omega) (by rw [hrv.hw ht]; exact e2) (show mi ≤ 2000 by omega) (rowC_cg hv hrv hrc)
  · rw [if_neg e]
    refine mdK_r hM (Md_waits_n hM (hD.1.ho hI) (fun z => e ?_))
    rw [e4] at z
    exact ⟨z.1, by rw [← hrv.hw (inR_lt z.1)]; exact z.2⟩
theorem P_idle (hL : LI G h x y) : Pr K x y 6 8 0 0 mX11_idle mX12_idle [.int v] h G := by
  obtain ⟨lo, tp, tn, rs, c, im, hxy, hC, hR, hI, hJ⟩ := hL
  obtain ⟨hF, h6, -, -⟩ := hC.fo
  have o3 := hI.hO.2.1
  obtain ⟨mi, hrc, hmi⟩ := hI.2.1.2.2
  refine Pr_ask hxy hR hI hJ (Cls_idle (K := K) (v := v) hC hI.1) (fun hl r sc A F wa sa G' hM hD => ?_)
  have hv := hD.1.vg hI
  have hrv := hD.1.rv hI
  have e3 : hl 0 3 = c.1.1 0 3 := hv.1 3 (by omega)
  unfold idleC
  by_cases e : inR v (c.1.1 0 3) = true
  · rw [if_pos e]
    obtain ⟨q, hq, rfl⟩ := inR_of e
    rw [thN_nI (by omega), ← (idleR_cg (rv := rvC rs c) hI.hO hv 400 c.1.2 r hrv).i hq]
    exact mdK_x hM.hB AS.kp FS.rf.cx.cx (Md_idle_y hM (hD.1.ho hI) (hD.rvv hF h6) (hD.1.ro hI) (by omega) (hrv.z.trans hrc.1) hmi)
  · rw [if_neg e]
    exact mdK_r hM (Md_idle_n hM (hD.1.ho hI) (by rw [e3]; simpa using e))
theorem w01 (h : inR w 2 = true) : w = nI 0 ∨ w = nI 1 := by
  obtain ⟨k, hk, rfl⟩ := inR_of h
  rcases (show k = 0 ∨ k = 1 by omega) with e | e <;> subst e
  · exact Or.inl rfl
  · exact Or.inr rfl
theorem P_take (hL : LI G h x y) : Pr K x y 7 12 0 0 mX11_take mX12_take [.int v, .int w] h G := by
  obtain ⟨lo, tp, tn, rs, c, im, hxy, hC, hR, hI, hJ⟩ := hL
  obtain ⟨hF, h6, -, -⟩ := hC.fo
  have o3 := hI.hO.2.1
  refine Pr_ask hxy hR hI hJ (Cls_take (K := K) (v := v) (w := w) hC hI.1) (fun hl r sc A F wa sa G' hM hD => ?_)
  have hv := hD.1.vg hI
  have hrv := hD.1.rv hI
  have e3 : hl 0 3 = c.1.1 0 3 := hv.1 3 (by omega)
  have e4 : hl 0 4 = c.1.1 0 4 := hv.1 4 (by omega)
  unfold takeC
  by_cases e : inR v (c.1.1 0 3) = true ∧ c.1.2 (5 + thN v) = -1 ∧ inR w 2 = true
  · rw [if_pos e]
    obtain ⟨e1, e2, e5⟩ := e
    obtain ⟨q, hq, rfl⟩ := inR_of e1
    rw [thN_nI (by omega)] at e2 ⊢
    rw [← savG_cg (rv := rvC rs c) hI.hO hv hrv, ← tryF_cg (candT_cg hI.hO hv hrv hq), ← e4]
    rcases w01 e5 with rfl | rfl
    · rw [if_pos (by decide)]
      exact mdK_x hM.hB AS.kp FS.rf.t (Md_take_y0 hM (hD.1.ho hI) (hD.rvv hF h6) (hD.1.ro hI) (by omega) (by rw [hrv.m hq]; exact e2))
    · rw [if_neg (by decide)]
      exact mdK_x hM.hB AS.kp FS.rf.t (Md_take_y1 hM (hD.1.ho hI) (hD.rvv hF h6) (hD.1.ro hI) (by omega) (by rw [hrv.m hq]; exact e2))
  · rw [if_neg e]
    refine mdK_r hM (Md_take_n hM (hD.1.ho hI) (fun z => e ?_))
    rw [e3] at z
    exact ⟨z.1, by rw [← hrv.m (inR_lt z.1)]; exact z.2.1, z.2.2⟩
theorem P_part (hL : LI G h x y) : Pr K x y 7 12 0 0 mX11_part mX12_part [.int w] h G := by
  obtain ⟨lo, tp, tn, rs, c, im, hxy, hC, hR, hI, hJ⟩ := hL
  obtain ⟨hF, h6, -, -⟩ := hC.fo
  refine Pr_ask hxy hR hI hJ (Cls_part (K := K) (w := w) hC hI.1) (fun hl r sc A F wa sa G' hM hD => ?_)
  have hv := hD.1.vg hI
  have hrv := hD.1.rv hI
  have ht := hD.1.told hI
  have e2 : hl 0 2 = c.1.1 0 2 := hv.1 2 (by omega)
  unfold partC
  by_cases e : c.2.2.1.1 = true ∧ inR w 2 = true
  · rw [if_pos e]
    have hpp : ∀ s, s < hl 0 2 → ∃ p, p ≤ 100 ∧ r (1 + s) = nI p := fun s hs => by
      rw [e2] at hs
      obtain ⟨p, p1, p2⟩ := hI.1.2.1.2.2.1 s hs
      exact ⟨p, by omega, (hrv.p hs).trans p2⟩
    have hcg : tryF (rvC rs c) (fun s => some (hl, partR r s)) (-1, savG c.1.1 (rvC rs c) c.1.2) (c.1.1 0 2) = tryF (rvC rs c) (fun s => some (c.1.1, partR c.1.2 s)) (-1, savG c.1.1 (rvC rs c) c.1.2) (c.1.1 0 2) := tryF_cg (fun s hs => Or.inr ⟨_, _, rfl, rfl, savG_cg hI.hO hv (part_cg hrv hs)⟩)
    rw [← hcg, ← savG_cg (rv := rvC rs c) hI.hO hv hrv, ← e2]
    rcases w01 e.2 with rfl | rfl
    · rw [if_pos (by decide)]
      exact mdK_x hM.hB AS.kp FS.rf.t (Md_part_y0 hM (hD.1.ho hI) (hD.rvv hF h6) (hD.1.ro hI) (ht.mp e.1) hpp)
    · rw [if_neg (by decide)]
      exact mdK_x hM.hB AS.kp FS.rf.t (Md_part_y1 hM (hD.1.ho hI) (hD.rvv hF h6) (hD.1.ro hI) (ht.mp e.1) hpp)
  · rw [if_neg e]
    exact mdK_r hM (Md_part_n hM (hD.1.ho hI) (fun z => e ⟨ht.mpr z.1, z.2⟩))
theorem RE.cnt {hk hk' : xHl} {rk r : xRw} (h : RE hk rk r) (h2 : hk' 0 2 = hk 0 2) : RE hk' rk r := fun j a b => h j a (by rw [h2] at b; exact b)
theorem P_askIn (hL : LI G h x y) : Pr K x y 7 12 0 0 mX11_askIn mX12_askIn [.int w] h G := by
  obtain ⟨lo, tp, tn, rs, c, im, hxy, hC, hR, hI, hJ⟩ := hL
  obtain ⟨hF, h6, -, -⟩ := hC.fo
  have h33 : ∀ i, c.1.1 3 (c.1.1 0 3 * 4 + i) = 0 := fun i => hI.2.2.2 _ (by omega)
  refine Pr_ask hxy hR hI hJ (Cls_askIn (K := K) (w := w) hC hI.1 (fun i _ => by rw [h33 i]; omega)) (fun hl r sc A F wa sa G' hM hD => ?_)
  have hv := hD.1.vg hI
  have hrv := hD.1.rv hI
  have ht := hD.1.told hI
  have e2 : hl 0 2 = c.1.1 0 2 := hv.1 2 (by omega)
  have e3 : hl 0 3 = c.1.1 0 3 := hv.1 3 (by omega)
  unfold askInC
  by_cases e : c.2.2.1.1 = true ∧ inR w 2 = true
  · rw [if_pos e]
    have b1 := ht.mp e.1
    have t1 : 1 ≤ c.1.1 0 0 := hI.one.mp e.1
    have h16 : ∀ j, j < 16 → hl 3 j = c.1.1 3 j := hD.1.1.2.2.1 t1
    have hG : c.1.1 0 3 < 4 → ∀ s, s < c.1.1 0 2 → HallOk (guestH c.1.1 s) := fun q s hs => guest_hall hI.hO q (fun i _ => by rw [h33 i]; omega)
    have g2 : ∀ s, guestH c.1.1 s 0 2 = c.1.1 0 2 := fun s => by unfold guestH; rw [s2_ne (by omega), s2_ne (by omega)]
    have hcg : tryF (rvC rs c) (candG hl r) (-1, savG c.1.1 (rvC rs c) c.1.2) (c.1.1 0 2) = tryF (rvC rs c) (candG c.1.1 c.1.2) (-1, savG c.1.1 (rvC rs c) c.1.2) (c.1.1 0 2) := tryF_cg (fun s hs => by
      by_cases q : c.1.1 0 3 < 4
      · exact candG_cg hv h16 (hG q) (fun s hs => (hD.1.2.1.cnt (g2 s)).vw (hG q s hs)) s hs
      · refine Or.inl ⟨?_, ?_⟩
        · unfold candG; rw [e3]; exact if_neg q
        · unfold candG; exact if_neg q)
    rw [← hcg, ← savG_cg (rv := rvC rs c) hI.hO hv hrv, ← e2]
    have hid := hI.2.1.2.1 t1
    have hgm : hl 0 3 < 4 → r (5 + hl 0 3) = -1 := fun q => by
      rw [e3] at q ⊢
      rw [hD.1.2.1 (5 + c.1.1 0 3) (by omega) (by omega)]
      exact (hid.1 _ (Nat.le_refl _) q).1
    have hgc : hl 0 3 < 4 → r (13 + hl 0 3) = 0 := fun q => by
      rw [e3] at q ⊢
      rw [hD.1.2.1 (13 + c.1.1 0 3) (by omega) (by omega)]
      exact (hid.1 _ (Nat.le_refl _) q).2.2.1
    have hgs : hl 0 3 < 4 → ∀ s, s < 4 → hl 3 (hl 0 3 * 4 + s) = 0 := fun q s hs => by
      rw [e3] at q ⊢
      rw [h16 _ (by omega)]
      exact h33 s
    rcases w01 e.2 with rfl | rfl
    · rw [if_pos (by decide)]
      exact Md_askIn_y0 hM (hD.1.ho hI) (hD.rvv hF h6) (hD.1.ro hI) b1 hgm hgc hgs
    · rw [if_neg (by decide)]
      exact Md_askIn_y1 hM (hD.1.ho hI) (hD.rvv hF h6) (hD.1.ro hI) b1 hgm hgc hgs
  · rw [if_neg e]
    exact mdK_r hM (Md_askIn_n hM (hD.1.ho hI) (fun z => e ⟨ht.mpr z.1, z.2⟩))
theorem P_late (hL : LI G h x y) : Pr K x y 6 9 0 0 mX11_late mX12_late [.int v] h G := by
  obtain ⟨lo, tp, tn, rs, c, im, hxy, hC, hR, hI, hJ⟩ := hL
  obtain ⟨hF, h6, -, -⟩ := hC.fo
  have o2 := hI.hO.1
  have o4 := hI.hO.2.2.1
  have o8 := hI.hO.2.2.2.2.2.2.1
  obtain ⟨mi, hrc, hmi⟩ := hI.2.1.2.2
  refine Pr_ask hxy hR hI hJ (Cls_late (K := K) (v := v) hC hI.1) (fun hl r sc A F wa sa G' hM hD => ?_)
  have hv := hD.1.vg hI
  have hrv := hD.1.rv hI
  have e0 : hl 0 0 = c.1.1 0 0 := hv.1 0 (by omega)
  have e2 : hl 0 2 = c.1.1 0 2 := hv.1 2 (by omega)
  have e4 : hl 0 4 = c.1.1 0 4 := hv.1 4 (by omega)
  unfold lateC
  by_cases e : inR v (c.1.1 0 2) = true
  · rw [if_pos e]
    obtain ⟨s, hs, rfl⟩ := inR_of e
    rw [thN_nI (by omega), hrc.1, thN_nI (by omega)]
    unfold lateS
    by_cases h7 : c.1.1 0 4 = 7
    · rw [if_pos (Or.inl (by omega))]
      exact mdK_r hM (Md_late_7 hM (hD.1.ho hI) (by omega) (by omega))
    · have h7' : c.1.1 0 4 < 7 := by omega
      have h0 : c.1.2 (21 + c.1.1 0 4) = 0 := hI.1.2.1.2.2.2.2.1 _ (Nat.le_refl _) h7'
      have h0' : r (21 + hl 0 4) = 0 := by
        rw [e4, hD.1.2.1 (21 + c.1.1 0 4) (by omega) (by omega)]
        exact h0
      have m := Md_late_y (K := K) (h := h) hM (hD.1.ho hI) (hD.rvv hF h6) (hD.1.ro hI) (s := s) (m := mi) (by omega) (by omega) (hrv.z.trans hrc.1) hmi h0'
      have hcg : lateF hl (rvC rs c) r s mi (hl 0 0 + 1 - mi) = lateF c.1.1 (rvC rs c) c.1.2 s mi (c.1.1 0 0 + 1 - mi) := by
        rw [e0]
        by_cases q : mi ≤ c.1.1 0 0
        · have g2 : ∀ z, lateH c.1.1 s z 0 2 = c.1.1 0 2 := fun z => by unfold lateH; rw [s2_ne (by omega), s2_ne (by omega), s2_ne (by omega), s2_ne (by omega), s2_ne (by omega)]
          have hO2 : ∀ z, z < mi + (c.1.1 0 0 + 1 - mi) → HallOk (lateH c.1.1 s z) := fun z hz => late_hall hI.hO hs (by omega) h7'
          exact late_cg hv (fun z hz => ⟨hO2 z hz, (hD.1.2.1.cnt (g2 z)).vw (hO2 z hz)⟩)
        · rw [show c.1.1 0 0 + 1 - mi = 0 by omega]; rfl
      rw [hcg] at m
      by_cases q : decide (∃ q, q < c.1.1 0 3 ∧ 0 < c.1.1 3 (q * 4 + s)) = false
      · rw [if_pos (Or.inr q)]
        have hn : ∀ q, q < c.1.1 0 3 → c.1.1 3 (q * 4 + s) = 0 := fun q' hq' => by
          have := of_decide_eq_false q
          exact Nat.eq_zero_of_not_pos (fun z => this ⟨q', hq', z⟩)
        have hno : lateF c.1.1 (rvC rs c) c.1.2 s mi (c.1.1 0 0 + 1 - mi) = -2 := by
          by_cases q : mi ≤ c.1.1 0 0
          · exact late_no hI.hO hI.1.2.1.1 hs h7' h0 hn _ (by omega)
          · rw [show c.1.1 0 0 + 1 - mi = 0 by omega]; rfl
        rw [hno] at m
        exact m
      · rw [if_neg (fun z => z.elim (fun z => by omega) q)]
        exact m
  · rw [if_neg e]
    exact mdK_r hM (Md_late_n hM (hD.1.ho hI) (by rw [e2]; simpa using e))
theorem P_swap (hL : LI G h x y) : Pr K x y 2 1 0 0 mX11_swap mX12_swap [.int w] h G := by
  obtain ⟨lo, tp, tn, rs, c, im, hxy, hC, hR, hI, hJ⟩ := hL
  refine Pr_ask hxy hR hI hJ (Cls_swap (K := K) (w := w) hC hI.1) (fun hl r sc A F wa sa G' hM hD => ?_)
  have hv := hD.1.vg hI
  have hrv := hD.1.rv hI
  have ht := hD.1.told hI
  have o4 := hI.hO.2.2.1
  unfold swapC
  by_cases e : c.2.2.1.1 = true ∧ inR w 3 = true
  · rw [if_pos e]
    have hw : ∀ q, q < c.1.1 0 3 → c.1.2 (5 + q) = -1 ∨ thN (c.1.2 (5 + q)) < c.1.1 0 4 := fun q hq => by
      rcases hI.1.2.1.1.2.1 q hq with z | ⟨t, t1, t2, -⟩
      · exact Or.inl z
      · exact Or.inr (by rw [t2, thN_nI (by omega)]; exact t1)
    have m := Md_swap_y (K := K) (h := h) (w := w) hM (hD.1.ho hI) (hD.1.ro hI) (ht.mp e.1) e.2
    unfold swAns at m
    rw [swO_cg hI.hO hv hrv hw] at m
    exact mdK_r hM m
  · rw [if_neg e]
    exact mdK_r hM (Md_swap_n hM (hD.1.ho hI) (fun z => e ⟨ht.mpr z.1, z.2⟩))
theorem P_match (hL : LI G h x y) : Pr K x y 9 4 0 0 mX11_match mX12_match [.int w] h G := by
  obtain ⟨lo, tp, tn, rs, c, im, hxy, hC, hR, hI, hJ⟩ := hL
  refine Pr_ask hxy hR hI hJ (Cls_match (K := K) (w := w) hC hI.1) (fun hl r sc A F wa sa G' hM hD => ?_)
  have hv := hD.1.vg hI
  have hrv := hD.1.rv hI
  have ht := hD.1.told hI
  have e2 : hl 0 2 = c.1.1 0 2 := hv.1 2 (by omega)
  have e3 : hl 0 3 = c.1.1 0 3 := hv.1 3 (by omega)
  unfold matchC
  by_cases e : c.2.2.1.1 = true ∧ inR w 6 = true
  · rw [if_pos e]
    obtain ⟨k, hk, rfl⟩ := inR_of e.2
    have m := Md_match_y (K := K) (h := h) (k := k) (P := fun s => thN (r (1 + s))) hM (hD.1.ho hI) (fun s hs => by
      rw [e2] at hs
      obtain ⟨p, p1, p2⟩ := hI.1.2.1.2.2.1 s hs
      have q := (hrv.p hs).trans p2
      show thN (r (1 + s)) < 1000 ∧ r (1 + s) = nI (thN (r (1 + s)))
      rw [q, thN_nI (by omega)]
      exact ⟨by omega, rfl⟩) (ht.mp e.1) hk
    rw [mtR_cg hI.hO hv hrv, e3] at m
    rw [thN_nI (by omega)]
    have i0 : (nI k = nI 0) ↔ k = 0 := ⟨fun z => by have := congrArg thN z; rw [thN_nI (by omega), thN_nI (by omega)] at this; exact this, fun z => by rw [z]⟩
    have i1 : (nI k = nI 1) ↔ k = 1 := ⟨fun z => by have := congrArg thN z; rw [thN_nI (by omega), thN_nI (by omega)] at this; exact this, fun z => by rw [z]⟩
    have i2 : (k - 2 < c.1.1 0 3 ∧ c.1.2 (5 + (k - 2)) = -1) ↔ (k - 2 < c.1.1 0 3 ∧ r (5 + (k - 2)) = -1) := ⟨fun z => ⟨z.1, by rw [hrv.m z.1]; exact z.2⟩, fun z => ⟨z.1, by rw [← hrv.m z.1]; exact z.2⟩⟩
    by_cases k0 : k = 0
    · rw [if_pos (i0.mpr k0)]
      rw [if_pos k0] at m
      exact m
    · rw [if_neg (fun z => k0 (i0.mp z))]
      rw [if_neg k0] at m
      by_cases k1 : k = 1
      · rw [if_pos (i1.mpr k1)]
        rw [if_pos k1] at m
        exact m
      · rw [if_neg (fun z => k1 (i1.mp z))]
        rw [if_neg k1] at m
        by_cases k2 : k - 2 < c.1.1 0 3 ∧ c.1.2 (5 + (k - 2)) = -1
        · rw [if_pos k2]
          rw [if_pos (i2.mp k2)] at m
          exact m
        · rw [if_neg k2]
          rw [if_neg (fun z => k2 (i2.mpr z))] at m
          exact m
  · rw [if_neg e]
    exact mdK_r hM (Md_match_n hM (hD.1.ho hI) (fun z => e ⟨ht.mpr z.1, z.2⟩))
theorem P_sat (hL : LI G h x y) : Pr K x y 6 9 0 0 mX11_saturdays mX12_saturdays [.int v, .int u, .int w] h G := by
  obtain ⟨lo, tp, tn, rs, c, im, hxy, hC, hR, hI, hJ⟩ := hL
  obtain ⟨hF, h6, -, -⟩ := hC.fo
  refine Pr_ask hxy hR hI hJ (Cls_saturdays (K := K) (a := v) (b := u) (w := w) hC hI.1) (fun hl r sc A F wa sa G' hM hD => ?_)
  have hv := hD.1.vg hI
  have hrv := hD.1.rv hI
  have ht := hD.1.told hI
  have e2 : hl 0 2 = c.1.1 0 2 := hv.1 2 (by omega)
  have e4 : hl 0 4 = c.1.1 0 4 := hv.1 4 (by omega)
  have hs1 : sc.2.1 = c.2.2.1.2.2 := by rw [hD.1.2.2.1]
  unfold satC
  by_cases e : c.2.2.1.1 = true ∧ ¬ v < nI 1 ∧ ¬ nI 10 < v ∧ inR u 61 = true ∧ inR w 2 = true
  · rw [if_pos e]
    obtain ⟨b1, b2, b3, b4, b5⟩ := e
    have hm : ∃ k, 1 ≤ k ∧ k ≤ 10 ∧ v = nI k := by
      have a1 : (1 : Int) ≤ v.toInt := Int32.le_iff_toInt_le.mp (Int32.not_lt.mp b2)
      have a2 : v.toInt ≤ 10 := Int32.le_iff_toInt_le.mp (Int32.not_lt.mp b3)
      exact ⟨v.toInt.toNat, by omega, by omega, xsw_to v _ (by omega)⟩
    obtain ⟨mm, m1, m2, rfl⟩ := hm
    obtain ⟨pp, p1, rfl⟩ := inR_of b4
    have hc5 : ∀ t, t < c.1.1 0 4 → c.1.1 5 t ≤ 300 := fun t z => by have := (hI.1.2.2.1 t z).1; omega
    have m := Md_sat_y (K := K) (h := h) (mm := mm) (pp := pp) (w := w) hM (hD.1.ho hI) (hD.rvv hF h6) (hD.1.ro hI) (ht.mp b1) m1 m2 (by omega) b5 (fun t z => by rw [e4] at z; rw [(hv.2.2.2 t z).2.1]; exact hc5 t z) (fun s z => by rw [e2] at z; rw [(hv.2.1 s z).2]; have := hI.1.2.2.2.1 s z; omega) (by rw [hs1]; exact hI.1.2.2.2.2.2.2.2.1)
    rw [hs1, sa_cg (g := pp + 1) hI.hO hv hc5 (by omega) (by omega)] at m
    rw [thN_nI (by omega), thN_nI (by omega)]
    exact m
  · rw [if_neg e]
    exact mdK_r hM (Md_sat_n hM (hD.1.ho hI) (fun z => e ⟨ht.mpr z.1, z.2⟩))
theorem bko_cg {hk hl : xHl} {bk : Nat → Nat → Nat} {bn : Nat} (e4 : hl 0 4 = hk 0 4) (h : BkOk hk bk bn) : BkOk hl bk bn := ⟨h.1, fun k hk' => by rw [e4]; exact h.2 k hk'⟩
theorem P_ruled (hL : LI G h x y) : Pr K x y 7 9 0 0 mX11_ruled mX12_ruled [.int w] h G := by
  obtain ⟨lo, tp, tn, rs, c, im, hxy, hC, hR, hI, hJ⟩ := hL
  obtain ⟨hF, h6, -, -⟩ := hC.fo
  refine Pr_ask hxy hR hI hJ (Cls_ruled (K := K) (w := w) hC hI.1) (fun hl r sc A F wa sa G' hM hD => ?_)
  have hv := hD.1.vg hI
  have ht := hD.1.told hI
  have e2 : hl 0 2 = c.1.1 0 2 := hv.1 2 (by omega)
  have e4 : hl 0 4 = c.1.1 0 4 := hv.1 4 (by omega)
  unfold ruledC
  by_cases e : c.2.2.1.1 = true ∧ inR w 2 = true
  · rw [if_pos e]
    have hf : (fun j => fitB hl c.2.1.1 c.2.1.2 (rvJ rs j)) = fitC rs c := funext (fun j => fitB_cg hI.hO hv hI.1.2.2.2.2.1)
    have m := Md_ruled_y (K := K) (h := h) (w := w) hM (rs := rs) (bk := c.2.1.1) (bn := c.2.1.2) (hD.1.ho hI) (hD.2.1.rj h6) h6 (by rw [hD.1.2.2.1]) hD.1.2.2.2.1 (bko_cg e4 hI.1.2.2.2.2.1) (fun s z => by rw [e2] at z; rw [(hv.2.1 s z).2]; have := hI.1.2.2.2.1 s z; omega) hD.2.2.2.2.2.2.1 (ht.mp e.1) e.2
    rw [hf] at m
    exact m
  · rw [if_neg e]
    exact mdK_r hM (Md_ruled_n hM (hD.1.ho hI) (fun z => e ⟨ht.mpr z.1, z.2⟩))
theorem P_look (hL : LI G h x y) : Pr K x y 7 9 0 0 mX11_look mX12_look [.int v, .int w] h G := by
  obtain ⟨lo, tp, tn, rs, c, im, hxy, hC, hR, hI, hJ⟩ := hL
  obtain ⟨hF, h6, -, -⟩ := hC.fo
  refine Pr_ask hxy hR hI hJ (Cls_look (K := K) (n := v) (w := w) hC hI.1) (fun hl r sc A F wa sa G' hM hD => ?_)
  have hv := hD.1.vg hI
  have ht := hD.1.told hI
  have e2 : hl 0 2 = c.1.1 0 2 := hv.1 2 (by omega)
  have e4 : hl 0 4 = c.1.1 0 4 := hv.1 4 (by omega)
  unfold lookC
  by_cases e : c.2.2.1.1 = true ∧ inR v 400 = true ∧ inR w 2 = true
  · rw [if_pos e]
    obtain ⟨b1, b2, b3⟩ := e
    obtain ⟨n, hn, rfl⟩ := inR_of b2
    have hf : (fun j => fitB hl c.2.1.1 c.2.1.2 (rvJ rs j)) = fitC rs c := funext (fun j => fitB_cg hI.hO hv hI.1.2.2.2.2.1)
    have m := Md_look_y (K := K) (h := h) (n := n) (w := w) hM (rs := rs) (bk := c.2.1.1) (bn := c.2.1.2) (hD.1.ho hI) (hD.2.1.rj h6) h6 (by rw [hD.1.2.2.1]) hD.1.2.2.2.1 (bko_cg e4 hI.1.2.2.2.2.1) (fun s z => by rw [e2] at z; rw [(hv.2.1 s z).2]; have := hI.1.2.2.2.1 s z; omega) hD.2.2.2.2.2.2.1 (ht.mp b1) hn b3
    rw [hf, alF_cg hI.hO hv rfl, e4] at m
    rw [thN_nI (by omega)]
    generalize ptF (alF c.1.1 rs (fitC rs c) n (rs.length + 1)) (c.1.1 0 4) = z at m ⊢
    cases z with
    | none => exact m
    | some t => exact m
  · rw [if_neg e]
    exact mdK_r hM (Md_look_n hM (hD.1.ho hI) (fun z => e ⟨ht.mpr z.1, z.2⟩))
end PML
