theorem Cls_hall {K : xG} {h x lo : Nat} {G : xHp} {tp : Nat → Nat} {tn : Nat} {rs : List (List Nat)} {c : xCo} {im : Nat → Option xCo} (hC : ClsAt G h x lo tp tn rs c im) : xCall K mX11_hall 7 0 0 [.ref x] h G (xEx (fun e : xHl × xHp => ((∀ j, e.1 1 j ≤ 9) ∧ ∀ i j, e.1 i j < 1000000) ∧ ClsAt e.2 h x lo tp 0 rs (if (hallP tp tn e.1).1 = 0 then openC c (hallP tp tn e.1).2 else c) im ∧ ∀ a, x + 51 ≤ a → a < lo → e.2 a = G a) (fun e => some (.int (if (hallP tp tn e.1).1 = 0 then nI ((hallP tp tn e.1).2 0 4) else -2 - nI (hallP tp tn e.1).1))) (fun _ => h) (fun e => e.2)) := by
  refine x_entry (by decide) (ls := [(0, .ref x)]) rfl (Nat.le_of_ble_eq_true rfl) ?_
  obtain ⟨ruf, ima, ru, hM, hE⟩ := hC
  obtain ⟨m1, m2, m3, m4, m5, m6, m7, m8, m9⟩ := id hM
  obtain ⟨rows, nx, fi, fs, al, s1, s2, s3, s4, s5⟩ := id m7
  have hN : DayAt G (x + 26) c.1.1 c.1.2 (x + 16) ru := s4
  have hB := hN.2.1.2.2.2.2.2.2.2.2
  have hrc := hE.2.2.1
  have htn := m2.2.2
  obtain ⟨hb, ⟨hl0, e0, w0, h9, hH⟩, ⟨a1, a2, a3, a4, a5, a6, a7, hr⟩⟩ := id m3
  have hlo := hE.1
  refine x_aload_n dX11_hall_0 0 rfl ?_
  refine x_get dX11_hall_1 fX11_18 (m1) rfl ?_
  refine x_aload_n dX11_hall_4 0 rfl ?_
  refine x_get dX11_hall_5 fX11_69 (m1) rfl ?_
  refine x_cVe (N := mX4_readAll) (d' := 6) (mc := 0) (ms := 0) (cb := 0) (sb := 0) (As := [.int (nI tn)]) (st := []) dX11_hall_8 mX4_readAll_v lX11_77 rfl rfl (hb) rfl (by decide) (Nat.le_of_ble_eq_true rfl) (Hr_readAll htn m2.1 m2.2.1 (by omega) h9 hH hr hb) rfl (sf := fun G1 => [.int (nI ((hallP tp tn hl0).1))]) (fun _ => rfl) (fun G1 hq1 => ?_)
  have hS1 := hq1.to (hallP_l9 h9)
  obtain ⟨y1, y2, y3, y4, y5⟩ := id hq1
  have n1 : G1 x = some (clsO x tn rs.length) := (y4 _ (by omega)).trans m1
  have s1b := (y4 (x + 19) (by omega)).trans s1
  refine x_istore_n (ls' := [(1, .int (nI ((hallP tp tn hl0).1))), (0, .ref x)]) dX11_hall_11 (by decide) rfl ?_
  refine x_aload_n dX11_hall_12 1 rfl ?_
  refine x_iconst dX11_hall_13 ki_0 ?_
  refine x_put (fs' := [.ref (x + 1), .int (nI 0), .ref (x + 2), .ref (x + 12), .ref (x + 15), .int (nI rs.length), .ref (x + 16), .ref (x + 19), .ref (x + 26), .ref (x + 36), .ref (x + 50)]) dX11_hall_14 fX11_69 (n1) (Nat.le_of_ble_eq_true rfl) rfl rfl rfl ?_
  refine x_pc (pc' := 17) rfl ?_
  refine x_iload_n dX11_hall_17 0 rfl ?_
  refine x_ifN_eq (tgt := 26) dX11_hall_18 (by decide) (by omega) (fun c18 => ?_) (fun c18 => ?_)
  · have yA : HallAt G1 (x + 3) (hallP tp tn hl0).2 := (y1.resolve_right (fun q => q.1 c18)).2
    have hS2 : StAt (xup G1 x (clsO x 0 rs.length)) (x + 19) (x + 16) c ru := m7.fr (fun a p q => by rw [xup_ne (by omega)]; exact y4 a (by omega))
    have hA2 : HallAt (xup G1 x (clsO x 0 rs.length)) (x + 3) (hallP tp tn hl0).2 := yA.fr (fun a p q => xup_ne (by omega))
    refine x_aload_n dX11_hall_26 1 rfl ?_
    refine x_get dX11_hall_27 fX11_47 (xup_eq) rfl ?_
    refine x_aload_n dX11_hall_30 1 rfl ?_
    refine x_get dX11_hall_31 fX11_18 (xup_eq) rfl ?_
    refine x_get dX11_hall_34 fX11_81 (xup_of (by omega) (y3)) rfl ?_
    refine x_cVe (N := mX10_open) (d' := 2) (mc := 0) (ms := 0) (cb := 0) (sb := 0) (As := [.ref (x + 3)]) (st := []) dX11_hall_37 mX10_open_v lX11_85 rfl rfl (xup_of (by omega) (s1b)) rfl (by decide) (Nat.le_of_ble_eq_true rfl) (St_open hS2 hA2 (by omega)) rfl (sf := fun G2 => []) (fun _ => rfl) (fun G2 hq2 => ?_)
    obtain ⟨k1, k2⟩ := hq2
    have n2 : G2 x = some (clsO x 0 rs.length) := (k2 _ (by omega)).trans xup_eq
    have hN2 : DayAt G2 (x + 26) (hallP tp tn hl0).2 (clearR (hallP tp tn hl0).2) (x + 16) ru := k1.day
    refine x_aload_n dX11_hall_40 1 rfl ?_
    refine x_get dX11_hall_41 fX11_55 (n2) rfl ?_
    refine x_pc (pc' := 44) rfl ?_
    refine x_get dX11_hall_44 fX11_89 (hN2.1) rfl ?_
    refine x_get dX11_hall_47 fX11_92 (hN2.2.1.1) rfl ?_
    have hfr : ∀ a, x + 51 ≤ a → a < lo → G2 a = G a := fun a p q => by rw [k2 a (by omega), xup_ne (by omega)]; exact y4 a (by omega)
    have hcl : ClsAt G2 h x lo tp 0 rs (openC c (hallP tp tn hl0).2) im := ⟨ruf, ima, ru, ⟨n2, ⟨(k2 _ (by omega)).trans (xup_of (by omega) ((y4 _ (by omega)).trans m2.1)), m2.2.1, by omega⟩, hS1.fr (fun a p q => by rw [k2 a (by omega), xup_ne (by omega)]), m4.fr (fun a p q => by rw [k2 a (by omega), xup_ne (by omega)]; exact y4 a (by omega)), by rw [k2 _ (by omega), xup_ne (by omega)]; exact (y4 _ (by omega)).trans m5, m6.fr (fun a p q => by rw [k2 a (by omega), xup_ne (by omega)]; exact y4 a (by omega)), k1, m8.fr (fun a p q => by rw [k2 a (by omega), xup_ne (by omega)]; exact y4 a (by omega)), by rw [k2 _ (by omega), xup_ne (by omega)]; exact (y4 _ (by omega)).trans m9⟩, hE.fr (fun a ha => by rw [k2 a (by omega), xup_ne (by omega)]; exact y4 a (by omega)) hE.2.2.2.2.1⟩
    exact x_iret dX11_hall_50 rfl (xEx_i (hl0, G2) ⟨⟨h9, hH.2.2.2.2.2.2.2.2⟩, by simp only; rw [if_pos c18]; exact hcl, hfr⟩ (by simp only; rw [if_pos c18]) rfl rfl)
  · refine x_bipush dX11_hall_21 kb_m2 ?_
    refine x_iload_n dX11_hall_23 0 rfl ?_
    refine x_isub dX11_hall_24 ?_
    have hfr : ∀ a, x + 51 ≤ a → a < lo → (xup G1 x (eO 11 [.ref (x + 1), .int (nI 0), .ref (x + 2), .ref (x + 12), .ref (x + 15), .int (nI rs.length), .ref (x + 16), .ref (x + 19), .ref (x + 26), .ref (x + 36), .ref (x + 50)])) a = G a := fun a p q => by rw [xup_ne (by omega)]; exact y4 a (by omega)
    have hcl : ClsAt (xup G1 x (eO 11 [.ref (x + 1), .int (nI 0), .ref (x + 2), .ref (x + 12), .ref (x + 15), .int (nI rs.length), .ref (x + 16), .ref (x + 19), .ref (x + 26), .ref (x + 36), .ref (x + 50)])) h x lo tp 0 rs c im := ⟨ruf, ima, ru, ⟨xup_eq, ⟨xup_of (by omega) ((y4 _ (by omega)).trans m2.1), m2.2.1, by omega⟩, hS1.fr (fun a p q => xup_ne (by omega)), m4.fr (fun a p q => by rw [xup_ne (by omega)]; exact y4 a (by omega)), xup_of (by omega) ((y4 _ (by omega)).trans m5), m6.fr (fun a p q => by rw [xup_ne (by omega)]; exact y4 a (by omega)), m7.fr (fun a p q => by rw [xup_ne (by omega)]; exact y4 a (by omega)), m8.fr (fun a p q => by rw [xup_ne (by omega)]; exact y4 a (by omega)), xup_of (by omega) ((y4 _ (by omega)).trans m9)⟩, hE.fr (fun a ha => by rw [xup_ne (by omega)]; exact y4 a (by omega)) hE.2.2.2.2.1⟩
    exact x_iret dX11_hall_25 rfl (xEx_i (hl0, (xup G1 x (eO 11 [.ref (x + 1), .int (nI 0), .ref (x + 2), .ref (x + 12), .ref (x + 15), .int (nI rs.length), .ref (x + 16), .ref (x + 19), .ref (x + 26), .ref (x + 36), .ref (x + 50)]))) ⟨⟨h9, hH.2.2.2.2.2.2.2.2⟩, by simp only; rw [if_neg c18]; exact hcl, hfr⟩ (by simp only; rw [if_neg c18]) rfl rfl)
theorem Cls_rule {K : xG} {h x lo : Nat} {G : xHp} {tp : Nat → Nat} {tn : Nat} {rs : List (List Nat)} {c : xCo} {im : Nat → Option xCo} (hC : ClsAt G h x lo tp tn rs c im) (hlen : (rulP tp tn).1 = 0 → (rulP tp tn).2.2.2.length < 400) : xCall K mX11_rule 31 2 401 [.ref x] h G (xEx (fun G' => (if rs.length < 6 then (if (rulP tp tn).1 = 0 then ClsAt G' (h + 2) x lo tp 0 (rs ++ [(rulP tp tn).2.2.2]) c im else ClsAt G' h x lo tp 0 rs c im) else ClsAt G' h x lo tp tn rs c im) ∧ ∀ a, x + 51 ≤ a → a < lo → G' a = G a) (fun _ => some (.int (if rs.length < 6 then (if (rulP tp tn).1 = 0 then nI rs.length else -2 - nI (rulP tp tn).1) else -1))) (fun _ => if rs.length < 6 ∧ (rulP tp tn).1 = 0 then h + 2 else h) (fun G' => G')) := by
  refine x_entry (by decide) (ls := [(0, .ref x)]) rfl (Nat.le_of_ble_eq_true rfl) ?_
  obtain ⟨ruf, ima, ru, hM, hE⟩ := hC
  obtain ⟨m1, m2, m3, m4, m5, m6, m7, m8, m9⟩ := id hM
  obtain ⟨rows, nx, fi, fs, al, s1, s2, s3, s4, s5⟩ := id m7
  have hN : DayAt G (x + 26) c.1.1 c.1.2 (x + 16) ru := s4
  have hB := hN.2.1.2.2.2.2.2.2.2.2
  have hrc := hE.2.2.1
  have htn := m2.2.2
  obtain ⟨⟨z1, z2, hb⟩, ⟨st, hst⟩, ⟨a1, a2, a3, a4, a5, a6, a7, hr⟩⟩ := id m4
  have hlo := hE.1
  have hlh := hE.2.1
  refine x_aload_n dX11_rule_0 0 rfl ?_
  refine x_get dX11_rule_1 fX11_97 (m1) rfl ?_
  refine x_bipush dX11_rule_4 kb_6 ?_
  refine x_icmpN_lt (tgt := 11) dX11_rule_6 (by decide) (by have := hB 0 0; have := hB 0 2; have := hB 0 3; have := hB 0 4; omega) (by have := hB 0 0; have := hB 0 2; have := hB 0 3; have := hB 0 4; omega) (fun c6 => ?_) (fun c6 => ?_)
  · refine x_aload_n dX11_rule_11 0 rfl ?_
    refine x_get dX11_rule_12 fX11_25 (m1) rfl ?_
    refine x_aload_n dX11_rule_15 0 rfl ?_
    refine x_get dX11_rule_16 fX11_69 (m1) rfl ?_
    refine x_cVe (N := mX9_readAll) (d' := 30) (mc := 0) (ms := 0) (cb := 2) (sb := 401) (As := [.int (nI tn)]) (st := []) dX11_rule_19 mX9_readAll_v lX11_100 rfl rfl (hb) rfl (by decide) (Nat.le_of_ble_eq_true rfl) (Rr_readAll htn m2.1 m2.2.1 (by omega) hb hst hr) rfl (sf := fun G1 => [.int (nI ((rulP tp tn).1))]) (fun _ => rfl) (fun G1 hq1 => ?_)
    have hS1 := hq1.to
    have hfl := hq1.1.f_lt
    have y4 := hq1.2.2.2.2.2.2.1
    have n1 : G1 x = some (clsO x tn rs.length) := (y4 _ (by omega)).trans m1
    refine x_pc (pc' := 22) rfl ?_
    refine x_istore_n (ls' := [(1, .int (nI ((rulP tp tn).1))), (0, .ref x)]) dX11_rule_22 (by decide) rfl ?_
    refine x_aload_n dX11_rule_23 1 rfl ?_
    refine x_iconst dX11_rule_24 ki_0 ?_
    refine x_put (fs' := [.ref (x + 1), .int (nI 0), .ref (x + 2), .ref (x + 12), .ref (x + 15), .int (nI rs.length), .ref (x + 16), .ref (x + 19), .ref (x + 26), .ref (x + 36), .ref (x + 50)]) dX11_rule_25 fX11_69 (n1) (Nat.le_of_ble_eq_true rfl) rfl rfl rfl ?_
    refine x_iload_n dX11_rule_28 0 rfl ?_
    refine x_ifN_eq (tgt := 37) dX11_rule_29 (by decide) (by omega) (fun c29 => ?_) (fun c29 => ?_)
    · have hW2 : RRd (xup G1 x (clsO x 0 rs.length)) (xup G1 x (clsO x 0 rs.length)) (x + 12) (x + 1) tn tp (rulP tp tn) := by
        obtain ⟨w1, w2, ⟨st2, w3, w4⟩, w5, w6, w7, w8, w9⟩ := hq1
        exact ⟨w1.fr (xup_ne (by omega)) (xup_ne (by omega)), xup_of (by omega) w2, ⟨st2, xup_of (by omega) w3, w4⟩, w5, w6, w7, fun _ _ => rfl, w9⟩
      refine x_aload_n dX11_rule_37 1 rfl ?_
      refine x_get dX11_rule_38 fX11_31 (xup_eq) rfl ?_
      refine x_aload_n dX11_rule_41 1 rfl ?_
      refine x_get dX11_rule_42 fX11_97 (xup_eq) rfl ?_
      refine x_pc (pc' := 45) rfl ?_
      refine x_aload_n dX11_rule_45 1 rfl ?_
      refine x_get dX11_rule_46 fX11_25 (xup_eq) rfl ?_
      refine x_cVe (N := mX9_made) (d' := 2) (mc := 2) (ms := 401) (cb := 0) (sb := 0) (As := []) (st := [.int (nI rs.length), .ref (x + 15)]) dX11_rule_49 mX9_made_v lX11_101 rfl rfl (xup_of (by omega) (hq1.2.1)) rfl (by decide) (Nat.le_of_ble_eq_true rfl) (Rr_made hW2 (hlen c29) (by omega)) rfl (sf := fun G2 => [.ref h, .int (nI rs.length), .ref (x + 15)]) (fun _ => rfl) (fun G2 hq2 => ?_)
      obtain ⟨k1, k2⟩ := hq2
      have n2 : G2 x = some (clsO x 0 rs.length) := (k2 _ (by omega)).trans xup_eq
      have k5 : G2 (x + 15) = some (eQ 0 6 ruf) := (k2 _ (by omega)).trans (xup_of (by omega) ((y4 (x + 15) (by omega)).trans m5))
      refine x_hh (h' := h + 2) rfl ?_
      refine x_aastN (b := h) dX11_rule_52 (k5) (fun _ => rfl) (k1.1) rfl (by omega) (by decide) ?_
      refine x_aload_n dX11_rule_53 1 rfl ?_
      refine x_dup dX11_rule_54 rfl ?_
      refine x_get dX11_rule_55 fX11_97 (xup_of (by omega) (n2)) rfl ?_
      refine x_iconst dX11_rule_58 ki_1 ?_
      refine x_iaddN dX11_rule_59 ?_
      refine x_put (fs' := [.ref (x + 1), .int (nI 0), .ref (x + 2), .ref (x + 12), .ref (x + 15), .int (nI (rs.length + 1)), .ref (x + 16), .ref (x + 19), .ref (x + 26), .ref (x + 36), .ref (x + 50)]) dX11_rule_60 fX11_97 (xup_of (by omega) (n2)) (Nat.le_of_ble_eq_true rfl) rfl rfl rfl ?_
      refine x_pc (pc' := 63) rfl ?_
      refine x_aload_n dX11_rule_63 1 rfl ?_
      refine x_get dX11_rule_64 fX11_97 (xup_eq) rfl ?_
      refine x_iconst dX11_rule_67 ki_1 ?_
      refine x_isubN dX11_rule_68 (by omega) ?_
      exact x_iret dX11_rule_69 rfl (xEx_i _ ⟨by rw [if_pos c6, if_pos c29]; exact ⟨_, ima, ru, ⟨by rw [List.length_append]; exact xup_eq, ⟨xup_of (by omega) (xup_of (by omega) ((k2 _ (by omega)).trans (xup_of (by omega) ((y4 _ (by omega)).trans m2.1)))), m2.2.1, by omega⟩, m3.fr (fun a p q => by rw [xup_ne (by omega), xup_ne (by omega), k2 a (by omega), xup_ne (by omega)]; exact y4 a (by omega)), hS1.fr (fun a p q => by rw [xup_ne (by omega), xup_ne (by omega), k2 a (by omega), xup_ne (by omega)]), xup_of (by omega) xup_eq, m6.fr (fun a p q => by rw [xup_ne (by omega), xup_ne (by omega), k2 a (by omega), xup_ne (by omega)]; exact y4 a (by omega)), m7.fr (fun a p q => by rw [xup_ne (by omega), xup_ne (by omega), k2 a (by omega), xup_ne (by omega)]; exact y4 a (by omega)), m8.fr (fun a p q => by rw [xup_ne (by omega), xup_ne (by omega), k2 a (by omega), xup_ne (by omega)]; exact y4 a (by omega)), xup_of (by omega) (xup_of (by omega) ((k2 _ (by omega)).trans (xup_of (by omega) ((y4 _ (by omega)).trans m9))))⟩, hE.add c6 (k1.fr (by rw [xup_ne (by omega), xup_ne (by omega)]) (by rw [xup_ne (by omega), xup_ne (by omega)])) (fun a p q => by rw [xup_ne (by omega), xup_ne (by omega), k2 a (by omega), xup_ne (by omega)]; exact y4 a (by omega))⟩, fun a p q => by rw [xup_ne (by omega), xup_ne (by omega), k2 a (by omega), xup_ne (by omega)]; exact y4 a (by omega)⟩ (by rw [if_pos c6, if_pos c29]; rfl) (by rw [if_pos ⟨c6, c29⟩]) rfl)
    · refine x_bipush dX11_rule_32 kb_m2 ?_
      refine x_iload_n dX11_rule_34 0 rfl ?_
      refine x_isub dX11_rule_35 ?_
      exact x_iret dX11_rule_36 rfl (xEx_i _ ⟨by rw [if_pos c6, if_neg c29]; exact ⟨ruf, ima, ru, ⟨xup_eq, ⟨xup_of (by omega) ((y4 _ (by omega)).trans m2.1), m2.2.1, by omega⟩, m3.fr (fun a p q => by rw [xup_ne (by omega)]; exact y4 a (by omega)), hS1.fr (fun a p q => xup_ne (by omega)), xup_of (by omega) ((y4 _ (by omega)).trans m5), m6.fr (fun a p q => by rw [xup_ne (by omega)]; exact y4 a (by omega)), m7.fr (fun a p q => by rw [xup_ne (by omega)]; exact y4 a (by omega)), m8.fr (fun a p q => by rw [xup_ne (by omega)]; exact y4 a (by omega)), xup_of (by omega) ((y4 _ (by omega)).trans m9)⟩, hE.fr (fun a ha => by rw [xup_ne (by omega)]; exact y4 a (by omega)) hE.2.2.2.2.1⟩, fun a p q => by rw [xup_ne (by omega)]; exact y4 a (by omega)⟩ (by rw [if_pos c6, if_neg c29]) (by rw [if_neg (fun q => c29 q.2)]) rfl)
  · refine x_iconst dX11_rule_9 ki_m1 ?_
    exact x_iret dX11_rule_10 rfl (xEx_i G (by rw [if_neg (by omega)]; exact Cls_same hM hE) (by rw [if_neg (by omega)]) (by rw [if_neg (fun q => absurd q.1 (by omega))]) rfl)
theorem Cls_image {K : xG} {h x lo : Nat} {G : xHp} {tp : Nat → Nat} {tn : Nat} {rs : List (List Nat)} {c : xCo} {im : Nat → Option xCo} {v : Int32} (hC : ClsAt G h x lo tp tn rs c im) : xCall K mX11_image 4 17 887 [.ref x, .int v] h G (xEx (fun e : Nat × xHp => (h ≤ e.1 ∧ e.1 ≤ h + 17) ∧ (if inR v 4 = true then ClsAt e.2 e.1 x lo tp tn rs c (fun i => if i = thN v then some c else im i) else ClsAt e.2 e.1 x lo tp tn rs c im) ∧ ∀ a, x + 51 ≤ a → a < lo → e.2 a = G a) (fun _ => some (.int (if inR v 4 = true then c.1.2 0 else -1))) (fun e => e.1) (fun e => e.2)) := by
  refine x_entry (by decide) (ls := [(0, .ref x), (1, .int v)]) rfl (Nat.le_of_ble_eq_true rfl) ?_
  obtain ⟨ruf, ima, ru, hM, hE⟩ := hC
  obtain ⟨m1, m2, m3, m4, m5, m6, m7, m8, m9⟩ := id hM
  obtain ⟨rows, nx, fi, fs, al, s1, s2, s3, s4, s5⟩ := id m7
  have hN : DayAt G (x + 26) c.1.1 c.1.2 (x + 16) ru := s4
  have hB := hN.2.1.2.2.2.2.2.2.2.2
  have hrc := hE.2.2.1
  have htn := m2.2.2
  have hlo := hE.1
  have hlh := hE.2.1
  refine x_iload_n dX11_image_0 1 rfl ?_
  refine x_if_lt (tgt := 9) dX11_image_1 (by decide) (fun c1 => ?_) (fun c1 => ?_)
  · refine x_iconst dX11_image_9 ki_m1 ?_
    exact x_iret dX11_image_10 rfl (xEx_i (h, G) ⟨⟨Nat.le_refl _, by show h ≤ h + 17; omega⟩, by rw [if_neg (by rw [inR_neg c1]; decide)]; exact Cls_same hM hE⟩ (by rw [if_neg (by rw [inR_neg c1]; decide)]) rfl rfl)
  · refine x_iload_n dX11_image_4 1 rfl ?_
    refine x_iconst dX11_image_5 ki_4 ?_
    refine x_icmp_lt (x := v) (y := nI 4) (tgt := 11) dX11_image_6 (by decide) (fun c6 => ?_) (fun c6 => ?_)
    · have hin : inR v 4 = true := inR_in (by decide) c1 (Int32.not_le.mpr c6)
      have hin2 := hin
      obtain ⟨k, hk, hvk⟩ := inR_of hin
      subst hvk
      have hk1 := thN_nI (t := k) (by omega)
      rcases hE.2.2.2.2.2.1 k (by omega) with ⟨i1, i2⟩ | ⟨ck, a, rk, i1, i2, i3, i4, i5, i6⟩
      · refine x_aload_n dX11_image_11 0 rfl ?_
        refine x_get dX11_image_12 fX11_65 (m1) rfl ?_
        refine x_iload_n dX11_image_15 1 rfl ?_
        refine x_aald5N dX11_image_16 (m9) (by omega) (by decide) ?_
        refine x_seq (st' := [va_rf none]) (by rw [i2]) ?_
        refine x_pc (pc' := 17) rfl ?_
        refine x_ifnonnull (r := none) (tgt := 37) dX11_image_17 (by decide) (fun _ q => absurd q (by simp)) (fun _ => ?_)
        refine x_aload_n dX11_image_20 0 rfl ?_
        refine x_get dX11_image_21 fX11_65 (m1) rfl ?_
        refine x_iload_n dX11_image_24 1 rfl ?_
        refine x_new (cb := 16) (sb := 879) (fs := [.null, .null, .int 0, .int 0, .int 0, .null, .int 0, .int 0]) dX11_image_25 xcl_X10 kX11_42 xin_X10 xii_X10 xdf_X10 ?_
        refine x_hh (h' := h + 1) rfl ?_
        refine x_dup dX11_image_28 rfl ?_
        refine x_aload_n dX11_image_29 0 rfl ?_
        refine x_get dX11_image_30 fX11_38 (xup_of (by omega) (m1)) rfl ?_
        refine x_cIe (N := mX10_init) (d' := 3) (mc := 16) (ms := 879) (cb := 0) (sb := 0) (As := [.ref (x + 16)]) (st := [.ref h, .int (nI k), .ref (x + 50)]) dX11_image_33 mX10_init_i lX11_44 rfl (by decide) (Nat.le_of_ble_eq_true rfl) (St_init (xup_eq)) rfl (sf := fun G1 => [.ref h, .int (nI k), .ref (x + 50)]) (fun _ => rfl) (fun G1 hq1 => ?_)
        obtain ⟨k1, k2⟩ := hq1
        have y4 : ∀ a, a < h → G1 a = G a := fun a ha => (k2 a (by omega)).trans (xup_ne (by omega))
        have n1 := (y4 x (by omega)).trans m1
        have n9 := (y4 (x + 50) (by omega)).trans m9
        obtain ⟨rb, nb, fb, gb, ab, b1, b2, b3, b4, b5⟩ := id k1
        refine x_hh (h' := h + 17) rfl ?_
        refine x_aastN (b := h) dX11_image_36 (n9) (fun _ => rfl) (b1) rfl (by omega) (by decide) ?_
        refine x_pc (pc' := 37) rfl ?_
        refine x_aload_n dX11_image_37 0 rfl ?_
        refine x_get dX11_image_38 fX11_65 (xup_of (by omega) (n1)) rfl ?_
        refine x_iload_n dX11_image_41 1 rfl ?_
        refine x_aald5N dX11_image_42 (xup_eq) (by omega) (by decide) ?_
        refine x_seq (st' := [.ref h]) (by show [va_rf (va_up ima k (some h) k)] = _; unfold va_up; rw [if_pos rfl]; rfl) ?_
        have hS2 : StAt (xup G1 (x + 50) (eQ 1 4 (va_up ima k (some h)))) h (x + 16) core0 none := k1.off (by omega)
        have hA2 : StAt (xup G1 (x + 50) (eQ 1 4 (va_up ima k (some h)))) (x + 19) (x + 16) c ru := m7.fr (fun a p q => by rw [xup_ne (by omega)]; exact y4 a (by omega))
        obtain ⟨rb2, nb2, fb2, gb2, ab2, d1, -⟩ := id hS2
        refine x_aload_n dX11_image_43 0 rfl ?_
        refine x_get dX11_image_44 fX11_47 (xup_of (by omega) (n1)) rfl ?_
        refine x_cVe (N := mX10_copy) (d' := 3) (mc := 0) (ms := 0) (cb := 0) (sb := 0) (As := [.ref (x + 19)]) (st := []) dX11_image_47 mX10_copy_v lX11_298 rfl rfl (d1) rfl (by decide) (Nat.le_of_ble_eq_true rfl) (St_copy hS2 hA2 (by omega)) rfl (sf := fun G2 => []) (fun _ => rfl) (fun G2 hq2 => ?_)
        obtain ⟨k3, k4⟩ := hq2
        have y5 : ∀ a, a < h → a ≠ x + 50 → G2 a = G a := fun a p q => by rw [k4 a (by omega), xup_ne q]; exact y4 a p
        have hfin : StAt G2 (x + 19) (x + 16) c ru := m7.fr (fun a p q => y5 a (by omega) (by omega))
        have n2 := (y5 x (by omega) (by omega)).trans m1
        refine x_aload_n dX11_image_50 0 rfl ?_
        refine x_get dX11_image_51 fX11_55 (n2) rfl ?_
        refine x_cV (N := mX2_minuteNow) (d' := 0) (mc := 0) (ms := 0) (cb := 0) (sb := 0) (As := []) (st := []) dX11_image_54 mX2_minuteNow_v lX11_155 rfl rfl (hfin.day.1) rfl (by decide) (Nat.le_of_ble_eq_true rfl) (Day_minuteNow (hfin.day)) rfl (st1 := [.int (c.1.2 0)]) rfl ?_
        refine x_pc (pc' := 57) rfl ?_
        exact x_iret dX11_image_57 rfl (xEx_i (h + 17, G2) ⟨⟨by show h ≤ h + 17; omega, Nat.le_refl _⟩, by rw [if_pos hin2, hk1]; exact ⟨ruf, _, ru, ⟨n2, m2.fr (y5 _ (by omega) (by omega)), m3.fr (fun a p q => y5 a (by omega) (by omega)), m4.fr (fun a p q => y5 a (by omega) (by omega)), (y5 _ (by omega) (by omega)).trans m5, m6.fr (fun a p q => y5 a (by omega) (by omega)), hfin, m8.fr (fun a p q => y5 a (by omega) (by omega)), (k4 _ (by omega)).trans xup_eq⟩, hE.img hk (by omega) (Or.inr ⟨rfl, rfl, Nat.le_refl _⟩) k3 hE.2.2.2.2.1 (fun b p q r => y5 b q (by omega))⟩, fun a p q => y5 a (by omega) (by omega)⟩ (by rw [if_pos hin2]) rfl rfl)
      · refine x_aload_n dX11_image_11 0 rfl ?_
        refine x_get dX11_image_12 fX11_65 (m1) rfl ?_
        refine x_iload_n dX11_image_15 1 rfl ?_
        refine x_aald5N dX11_image_16 (m9) (by omega) (by decide) ?_
        refine x_seq (st' := [.ref a]) (by rw [i2]; rfl) ?_
        refine x_pc (pc' := 17) rfl ?_
        refine x_ifnonnull (r := some a) (tgt := 37) dX11_image_17 (by decide) (fun _ _ => ?_) (fun q => absurd q (by simp))
        refine x_aload_n dX11_image_37 0 rfl ?_
        refine x_get dX11_image_38 fX11_65 (m1) rfl ?_
        refine x_iload_n dX11_image_41 1 rfl ?_
        refine x_aald5N dX11_image_42 (m9) (by omega) (by decide) ?_
        refine x_seq (st' := [.ref a]) (by rw [i2]; rfl) ?_
        obtain ⟨rb2, nb2, fb2, gb2, ab2, d1, -⟩ := id i5
        refine x_aload_n dX11_image_43 0 rfl ?_
        refine x_get dX11_image_44 fX11_47 (m1) rfl ?_
        refine x_cVe (N := mX10_copy) (d' := 3) (mc := 0) (ms := 0) (cb := 17) (sb := 887) (As := [.ref (x + 19)]) (st := []) dX11_image_47 mX10_copy_v lX11_298 rfl rfl (d1) rfl (by decide) (Nat.le_of_ble_eq_true rfl) (St_copy i5 m7 (by omega)) rfl (sf := fun G2 => []) (fun _ => rfl) (fun G2 hq2 => ?_)
        obtain ⟨k3, k4⟩ := hq2
        have y5 : ∀ b, ¬ (a ≤ b ∧ b < a + 17) → G2 b = G b := fun b p => k4 b (by omega)
        have hfin : StAt G2 (x + 19) (x + 16) c ru := m7.fr (fun b p q => y5 b (by omega))
        have n2 := (y5 x (by omega)).trans m1
        refine x_aload_n dX11_image_50 0 rfl ?_
        refine x_get dX11_image_51 fX11_55 (n2) rfl ?_
        refine x_pc (pc' := 54) rfl ?_
        refine x_cV (N := mX2_minuteNow) (d' := 0) (mc := 0) (ms := 0) (cb := 17) (sb := 887) (As := []) (st := []) dX11_image_54 mX2_minuteNow_v lX11_155 rfl rfl (hfin.day.1) rfl (by decide) (Nat.le_of_ble_eq_true rfl) (Day_minuteNow (hfin.day)) rfl (st1 := [.int (c.1.2 0)]) rfl ?_
        exact x_iret dX11_image_57 rfl (xEx_i (h, G2) ⟨⟨Nat.le_refl _, by show h ≤ h + 17; omega⟩, by rw [if_pos hin2, hk1]; exact ⟨ruf, ima, ru, ⟨n2, m2.fr (y5 _ (by omega)), m3.fr (fun b p q => y5 b (by omega)), m4.fr (fun b p q => y5 b (by omega)), (y5 _ (by omega)).trans m5, m6.fr (fun b p q => y5 b (by omega)), hfin, m8.fr (fun b p q => y5 b (by omega)), (y5 _ (by omega)).trans m9⟩, hE.img hk (Nat.le_refl _) (Or.inl ⟨rfl, i2, i3, i4⟩) k3 hE.2.2.2.2.1 (fun b p q r => y5 b r)⟩, fun b p q => y5 b (by omega)⟩ (by rw [if_pos hin2]) rfl rfl)
    · refine x_iconst dX11_image_9 ki_m1 ?_
      exact x_iret dX11_image_10 rfl (xEx_i (h, G) ⟨⟨Nat.le_refl _, by show h ≤ h + 17; omega⟩, by rw [if_neg (by rw [inR_ge (n := 4) (by decide) (Int32.not_lt.mp c6)]; decide)]; exact Cls_same hM hE⟩ (by rw [if_neg (by rw [inR_ge (n := 4) (by decide) (Int32.not_lt.mp c6)]; decide)]) rfl rfl)
theorem Cls_back {K : xG} {h x lo : Nat} {G : xHp} {tp : Nat → Nat} {tn : Nat} {rs : List (List Nat)} {c : xCo} {im : Nat → Option xCo} {v : Int32} (hC : ClsAt G h x lo tp tn rs c im) : xCall K mX11_back 4 0 0 [.ref x, .int v] h G (clQ G h x lo (if inR v 4 = true then (match im (thN v) with | none => -1 | some ck => ck.1.2 0) else -1) tp tn rs (if inR v 4 = true then (match im (thN v) with | none => c | some ck => ck) else c) im) := by
  refine x_entry (by decide) (ls := [(0, .ref x), (1, .int v)]) rfl (Nat.le_of_ble_eq_true rfl) ?_
  obtain ⟨ruf, ima, ru, hM, hE⟩ := hC
  obtain ⟨m1, m2, m3, m4, m5, m6, m7, m8, m9⟩ := id hM
  obtain ⟨rows, nx, fi, fs, al, s1, s2, s3, s4, s5⟩ := id m7
  have hN : DayAt G (x + 26) c.1.1 c.1.2 (x + 16) ru := s4
  have hB := hN.2.1.2.2.2.2.2.2.2.2
  have hrc := hE.2.2.1
  have htn := m2.2.2
  have hlo := hE.1
  have hlh := hE.2.1
  refine x_iload_n dX11_back_0 1 rfl ?_
  refine x_if_lt (tgt := 18) dX11_back_1 (by decide) (fun c1 => ?_) (fun c1 => ?_)
  · refine x_iconst dX11_back_18 ki_m1 ?_
    exact x_iret dX11_back_19 rfl (xEx_i G (by rw [if_neg (by rw [inR_neg c1]; decide)]; exact Cls_same hM hE) (by rw [if_neg (by rw [inR_neg c1]; decide)]) rfl rfl)
  · refine x_iload_n dX11_back_4 1 rfl ?_
    refine x_iconst dX11_back_5 ki_4 ?_
    refine x_icmp_ge (x := v) (y := nI 4) (tgt := 18) dX11_back_6 (by decide) (fun c6 => ?_) (fun c6 => ?_)
    · refine x_iconst dX11_back_18 ki_m1 ?_
      exact x_iret dX11_back_19 rfl (xEx_i G (by rw [if_neg (by rw [inR_ge (n := 4) (by decide) c6]; decide)]; exact Cls_same hM hE) (by rw [if_neg (by rw [inR_ge (n := 4) (by decide) c6]; decide)]) rfl rfl)
    · have hin : inR v 4 = true := inR_in (by decide) c1 c6
      have hin2 := hin
      obtain ⟨k, hk, hvk⟩ := inR_of hin
      subst hvk
      have hk1 := thN_nI (t := k) (by omega)
      rcases hE.2.2.2.2.2.1 k (by omega) with ⟨i1, i2⟩ | ⟨ck, a, rk, i1, i2, i3, i4, i5, i6⟩
      · refine x_aload_n dX11_back_9 0 rfl ?_
        refine x_get dX11_back_10 fX11_65 (m1) rfl ?_
        refine x_iload_n dX11_back_13 1 rfl ?_
        refine x_aald5N dX11_back_14 (m9) (by omega) (by decide) ?_
        refine x_seq (st' := [va_rf none]) (by rw [i2]) ?_
        refine x_pc (pc' := 15) rfl ?_
        refine x_ifnonnull (r := none) (tgt := 20) dX11_back_15 (by decide) (fun _ q => absurd q (by simp)) (fun _ => ?_)
        refine x_iconst dX11_back_18 ki_m1 ?_
        exact x_iret dX11_back_19 rfl (xEx_i G (by rw [if_pos hin2, hk1, i1]; exact Cls_same hM hE) (by rw [if_pos hin2, hk1, i1]) rfl rfl)
      · refine x_aload_n dX11_back_9 0 rfl ?_
        refine x_get dX11_back_10 fX11_65 (m1) rfl ?_
        refine x_iload_n dX11_back_13 1 rfl ?_
        refine x_aald5N dX11_back_14 (m9) (by omega) (by decide) ?_
        refine x_seq (st' := [.ref a]) (by rw [i2]; rfl) ?_
        refine x_pc (pc' := 15) rfl ?_
        refine x_ifnonnull (r := some a) (tgt := 20) dX11_back_15 (by decide) (fun _ _ => ?_) (fun q => absurd q (by simp))
        refine x_aload_n dX11_back_20 0 rfl ?_
        refine x_get dX11_back_21 fX11_47 (m1) rfl ?_
        refine x_aload_n dX11_back_24 0 rfl ?_
        refine x_get dX11_back_25 fX11_65 (m1) rfl ?_
        refine x_iload_n dX11_back_28 1 rfl ?_
        refine x_aald5N dX11_back_29 (m9) (by omega) (by decide) ?_
        refine x_seq (st' := [.ref a, .ref (x + 19)]) (by rw [i2]; rfl) ?_
        refine x_cVe (N := mX10_copy) (d' := 3) (mc := 0) (ms := 0) (cb := 0) (sb := 0) (As := [.ref a]) (st := []) dX11_back_30 mX10_copy_v lX11_298 rfl rfl (s1) rfl (by decide) (Nat.le_of_ble_eq_true rfl) (St_copy m7 i5 (by omega)) rfl (sf := fun G2 => []) (fun _ => rfl) (fun G2 hq2 => ?_)
        obtain ⟨k3, k4⟩ := hq2
        have n2 := (k4 x (by omega)).trans m1
        refine x_aload_n dX11_back_33 0 rfl ?_
        refine x_get dX11_back_34 fX11_55 (n2) rfl ?_
        refine x_pc (pc' := 37) rfl ?_
        refine x_cV (N := mX2_minuteNow) (d' := 0) (mc := 0) (ms := 0) (cb := 0) (sb := 0) (As := []) (st := []) dX11_back_37 mX2_minuteNow_v lX11_155 rfl rfl (k3.day.1) rfl (by decide) (Nat.le_of_ble_eq_true rfl) (Day_minuteNow k3.day) rfl (st1 := [.int (ck.1.2 0)]) rfl ?_
        exact x_iret dX11_back_40 rfl (xEx_i G2 (by rw [if_pos hin2, hk1, i1]; exact Cls_st hM hE k3 (m6.fr (fun a p q => k4 a (by omega))) (fun a ha => k4 a (by omega)) i6) (by rw [if_pos hin2, hk1, i1]) rfl rfl)
theorem Cls_init {K : xG} {x : Nat} {G : xHp} (hb : G x = some (eO 11 [.null, .int 0, .null, .null, .null, .int 0, .null, .null, .null, .null, .null])) : xCall K mX11_init 4 50 1950 [.ref x] (x + 1) G (xEx (fun G' => ClsM G' x (fun _ => 0) 0 0 (fun _ => none) (fun _ => none) core0 none ∧ Fr G G' x 51) (fun _ => none) (fun _ => x + 51) (fun G' => G')) := by
  refine x_entry (by decide) (ls := [(0, .ref x)]) rfl (Nat.le_of_ble_eq_true rfl) ?_
  refine x_aload_n dX11_init_0 0 rfl ?_
  refine x_objInit dX11_init_1 lX11_1 xw_objI xw_objC (by decide) (Nat.le_of_ble_eq_true rfl) ?_
  refine x_aload_n dX11_init_4 0 rfl ?_
  refine x_sipush dX11_init_5 ks_400 ?_
  refine x_newa (cb := 49) (sb := 1550) (t := 0) (N0 := 400) dX11_init_8 rfl xac_int (fun _ => rfl) (fun _ _ => rfl) rfl (by decide) (by decide) (by decide) ?_
  refine x_hh (h' := x + 2) rfl ?_
  refine x_putF (fs' := [.ref (x + 1), .int 0, .null, .null, .null, .int 0, .null, .null, .null, .null, .null]) dX11_init_10 fX11_9 rfl rfl (xup_of (by omega) (hb)) (Nat.le_of_ble_eq_true rfl) rfl rfl rfl ?_
  refine x_aload_n dX11_init_13 0 rfl ?_
  refine x_new (cb := 48) (sb := 1548) (fs := [.null, .null]) dX11_init_14 xcl_X4 kX11_13 xin_X4 xii_X4 xdf_X4 ?_
  refine x_hh (h' := x + 3) rfl ?_
  refine x_dup dX11_init_17 rfl ?_
  refine x_pc (pc' := 18) rfl ?_
  refine x_aload_n dX11_init_18 0 rfl ?_
  refine x_get dX11_init_19 fX11_9 (xup_of (by omega) (xup_eq)) rfl ?_
  refine x_cIe (N := mX4_init) (d' := 2) (mc := 9) (ms := 72) (cb := 39) (sb := 1476) (As := [.ref (x + 1)]) (st := [.ref (x + 2), .ref x]) dX11_init_22 mX4_init_i lX11_15 rfl (by decide) (Nat.le_of_ble_eq_true rfl) (Hr_init (xup_eq)) rfl (sf := fun G1 => [.ref (x + 2), .ref x]) (fun _ => rfl) (fun G1 hq1 => ?_)
  obtain ⟨ya1, yb1, yc1, w1⟩ := hq1
  have f1_0 : G1 (x) = some (eO 11 [.ref (x + 1), .int 0, .null, .null, .null, .int 0, .null, .null, .null, .null, .null]) := (w1 _ (by omega)).trans (xup_of (by omega) (xup_eq))
  have f1_1 : G1 (x + 1) = some (eI 0 400 (fun _ => 0)) := (w1 _ (by omega)).trans (xup_of (by omega) (xup_of (by omega) (xup_eq)))
  have hh1 : HRs G1 (x + 2) (x + 1) := ⟨yc1, ⟨_, _, _, fun _ => by simp, ya1.wide⟩, ⟨_, _, _, _, _, _, _, yb1⟩⟩
  refine x_hh (h' := x + 12) rfl ?_
  refine x_putF (fs' := [.ref (x + 1), .int 0, .ref (x + 2), .null, .null, .int 0, .null, .null, .null, .null, .null]) dX11_init_25 fX11_18 rfl rfl (f1_0) (Nat.le_of_ble_eq_true rfl) rfl rfl rfl ?_
  refine x_aload_n dX11_init_28 0 rfl ?_
  refine x_new (cb := 38) (sb := 1472) (fs := [.null, .null, .int 0, .int 0]) dX11_init_29 xcl_X9 kX11_22 xin_X9 xii_X9 xdf_X9 ?_
  refine x_hh (h' := x + 13) rfl ?_
  refine x_dup dX11_init_32 rfl ?_
  refine x_aload_n dX11_init_33 0 rfl ?_
  refine x_get dX11_init_34 fX11_9 (xup_of (by omega) (xup_eq)) rfl ?_
  refine x_cIe (N := mX9_init) (d' := 2) (mc := 2) (ms := 408) (cb := 36) (sb := 1064) (As := [.ref (x + 1)]) (st := [.ref (x + 12), .ref x]) dX11_init_37 mX9_init_i lX11_24 rfl (by decide) (Nat.le_of_ble_eq_true rfl) (Rr_init (xup_eq)) rfl (sf := fun G2 => [.ref (x + 12), .ref x]) (fun _ => rfl) (fun G2 hq2 => ?_)
  obtain ⟨ya2, yb2, yc2, w2⟩ := hq2
  have f2_0 : G2 (x) = some (eO 11 [.ref (x + 1), .int 0, .ref (x + 2), .null, .null, .int 0, .null, .null, .null, .null, .null]) := (w2 _ (by omega)).trans (xup_of (by omega) (xup_eq))
  have f2_1 : G2 (x + 1) = some (eI 0 400 (fun _ => 0)) := (w2 _ (by omega)).trans (xup_of (by omega) (xup_of (by omega) (f1_1)))
  have hh2 : HRs G2 (x + 2) (x + 1) := hh1.fr (fun a h1 h2 => by rw [w2 a (by omega), xup_ne (by omega), xup_ne (by omega)])
  have rh2 : RRs G2 (x + 12) (x + 1) := ⟨⟨_, _, ya2⟩, ⟨_, yb2⟩, ⟨_, _, _, _, _, _, _, yc2⟩⟩
  refine x_hh (h' := x + 15) rfl ?_
  refine x_pc (pc' := 40) rfl ?_
  refine x_putF (fs' := [.ref (x + 1), .int 0, .ref (x + 2), .ref (x + 12), .null, .int 0, .null, .null, .null, .null, .null]) dX11_init_40 fX11_25 rfl rfl (f2_0) (Nat.le_of_ble_eq_true rfl) rfl rfl rfl ?_
  refine x_aload_n dX11_init_43 0 rfl ?_
  refine x_bipush dX11_init_44 kb_6 ?_
  refine x_anew (cb := 35) (sb := 1058) (t := 0) (N0 := 6) dX11_init_46 kX11_29 (by simp) (fun _ => rfl) (by decide) (by decide) (by decide) ?_
  refine x_hh (h' := x + 16) rfl ?_
  refine x_putF (fs' := [.ref (x + 1), .int 0, .ref (x + 2), .ref (x + 12), .ref (x + 15), .int 0, .null, .null, .null, .null, .null]) dX11_init_49 fX11_31 rfl rfl (xup_of (by omega) (xup_eq)) (Nat.le_of_ble_eq_true rfl) rfl rfl rfl ?_
  refine x_geq (xup_dig (by omega)) ?_
  refine x_aload_n dX11_init_52 0 rfl ?_
  refine x_new (cb := 34) (sb := 1056) (fs := [.null, .null]) dX11_init_53 xcl_X5 kX11_35 xin_X5 xii_X5 xdf_X5 ?_
  refine x_hh (h' := x + 17) rfl ?_
  refine x_dup dX11_init_56 rfl ?_
  refine x_cINe (N := mX5_init) (d' := 1) (mc := 2) (ms := 44) (cb := 32) (sb := 1012) (As := []) (st := [.ref (x + 16), .ref x]) dX11_init_57 mX5_init_i lX11_37 rfl (by decide) (Nat.le_of_ble_eq_true rfl) (Judge_init (xup_eq)) rfl (sf := fun G3 => [.ref (x + 16), .ref x]) (fun _ => rfl) (fun G3 hq3 => ?_)
  obtain ⟨ya3, w3⟩ := hq3
  have f3_0 : G3 (x) = some (eO 11 [.ref (x + 1), .int 0, .ref (x + 2), .ref (x + 12), .ref (x + 15), .int 0, .null, .null, .null, .null, .null]) := (w3 _ (by omega)).trans (xup_of (by omega) (xup_of (by omega) (xup_eq)))
  have f3_1 : G3 (x + 1) = some (eI 0 400 (fun _ => 0)) := (w3 _ (by omega)).trans (xup_of (by omega) (xup_of (by omega) (xup_of (by omega) (f2_1))))
  have f3_2 : G3 (x + 15) = some (eQ 0 6 (fun _ => none)) := (w3 _ (by omega)).trans (xup_of (by omega) (xup_eq))
  have hh3 : HRs G3 (x + 2) (x + 1) := hh2.fr (fun a h1 h2 => by rw [w3 a (by omega), xup_ne (by omega), xup_ne (by omega), xup_ne (by omega)])
  have rh3 : RRs G3 (x + 12) (x + 1) := rh2.fr (fun a h1 h2 => by rw [w3 a (by omega), xup_ne (by omega), xup_ne (by omega), xup_ne (by omega)])
  have jh3 : JuAt G3 (x + 16) := ⟨_, _, ya3⟩
  refine x_hh (h' := x + 19) rfl ?_
  refine x_putF (fs' := [.ref (x + 1), .int 0, .ref (x + 2), .ref (x + 12), .ref (x + 15), .int 0, .ref (x + 16), .null, .null, .null, .null]) dX11_init_60 fX11_38 rfl rfl (f3_0) (Nat.le_of_ble_eq_true rfl) rfl rfl rfl ?_
  refine x_pc (pc' := 63) rfl ?_
  refine x_aload_n dX11_init_63 0 rfl ?_
  refine x_new (cb := 31) (sb := 1004) (fs := [.null, .null, .int 0, .int 0, .int 0, .null, .int 0, .int 0]) dX11_init_64 xcl_X10 kX11_42 xin_X10 xii_X10 xdf_X10 ?_
  refine x_hh (h' := x + 20) rfl ?_
  refine x_dup dX11_init_67 rfl ?_
  refine x_aload_n dX11_init_68 0 rfl ?_
  refine x_get dX11_init_69 fX11_38 (xup_of (by omega) (xup_eq)) rfl ?_
  refine x_cIe (N := mX10_init) (d' := 3) (mc := 16) (ms := 879) (cb := 15) (sb := 125) (As := [.ref (x + 16)]) (st := [.ref (x + 19), .ref x]) dX11_init_72 mX10_init_i lX11_44 rfl (by decide) (Nat.le_of_ble_eq_true rfl) (St_init (xup_eq)) rfl (sf := fun G4 => [.ref (x + 19), .ref x]) (fun _ => rfl) (fun G4 hq4 => ?_)
  obtain ⟨ya4, w4⟩ := hq4
  have f4_0 : G4 (x) = some (eO 11 [.ref (x + 1), .int 0, .ref (x + 2), .ref (x + 12), .ref (x + 15), .int 0, .ref (x + 16), .null, .null, .null, .null]) := (w4 _ (by omega)).trans (xup_of (by omega) (xup_eq))
  have f4_1 : G4 (x + 1) = some (eI 0 400 (fun _ => 0)) := (w4 _ (by omega)).trans (xup_of (by omega) (xup_of (by omega) (f3_1)))
  have f4_2 : G4 (x + 15) = some (eQ 0 6 (fun _ => none)) := (w4 _ (by omega)).trans (xup_of (by omega) (xup_of (by omega) (f3_2)))
  have hh4 : HRs G4 (x + 2) (x + 1) := hh3.fr (fun a h1 h2 => by rw [w4 a (by omega), xup_ne (by omega), xup_ne (by omega)])
  have rh4 : RRs G4 (x + 12) (x + 1) := rh3.fr (fun a h1 h2 => by rw [w4 a (by omega), xup_ne (by omega), xup_ne (by omega)])
  have jh4 : JuAt G4 (x + 16) := jh3.fr (fun a h1 h2 => by rw [w4 a (by omega), xup_ne (by omega), xup_ne (by omega)])
  have sh4 : StAt G4 (x + 19) (x + 16) core0 none := ya4
  obtain ⟨rb, nb, fb, gb, ab, b1, b2, b3, b4, b5⟩ := id ya4
  refine x_hh (h' := x + 36) rfl ?_
  refine x_putF (fs' := [.ref (x + 1), .int 0, .ref (x + 2), .ref (x + 12), .ref (x + 15), .int 0, .ref (x + 16), .ref (x + 19), .null, .null, .null]) dX11_init_75 fX11_47 rfl rfl (f4_0) (Nat.le_of_ble_eq_true rfl) rfl rfl rfl ?_
  refine x_aload_n dX11_init_78 0 rfl ?_
  refine x_aload_n dX11_init_79 0 rfl ?_
  refine x_get dX11_init_80 fX11_47 (xup_eq) rfl ?_
  refine x_pc (pc' := 83) rfl ?_
  refine x_get dX11_init_83 fX11_51 (xup_of (by omega) (b1)) rfl ?_
  refine x_putF (fs' := [.ref (x + 1), .int 0, .ref (x + 2), .ref (x + 12), .ref (x + 15), .int 0, .ref (x + 16), .ref (x + 19), .ref (x + 26), .null, .null]) dX11_init_86 fX11_55 rfl rfl (xup_eq) (Nat.le_of_ble_eq_true rfl) rfl rfl rfl ?_
  refine x_geq xup_up ?_
  refine x_aload_n dX11_init_89 0 rfl ?_
  refine x_new (cb := 14) (sb := 120) (fs := [.null, .null, .null, .int 0, .int 0]) dX11_init_90 xcl_X0 kX11_56 xin_X0 xii_X0 xdf_X0 ?_
  refine x_hh (h' := x + 37) rfl ?_
  refine x_dup dX11_init_93 rfl ?_
  refine x_aload_n dX11_init_94 0 rfl ?_
  refine x_get dX11_init_95 fX11_55 (xup_of (by omega) (xup_eq)) rfl ?_
  refine x_aload_n dX11_init_98 0 rfl ?_
  refine x_get dX11_init_99 fX11_38 (xup_of (by omega) (xup_eq)) rfl ?_
  refine x_cIe (N := mX0_init) (d' := 3) (mc := 13) (ms := 116) (cb := 1) (sb := 4) (As := [.ref (x + 26), .ref (x + 16)]) (st := [.ref (x + 36), .ref x]) dX11_init_102 mX0_init_i lX11_58 rfl (by decide) (Nat.le_of_ble_eq_true rfl) (Asks_init (xup_eq)) rfl (sf := fun G5 => [.ref (x + 36), .ref x]) (fun _ => rfl) (fun G5 hq5 => ?_)
  obtain ⟨ya5, yb5, yc5, w5⟩ := hq5
  have f5_0 : G5 (x) = some (eO 11 [.ref (x + 1), .int 0, .ref (x + 2), .ref (x + 12), .ref (x + 15), .int 0, .ref (x + 16), .ref (x + 19), .ref (x + 26), .null, .null]) := (w5 _ (by omega)).trans (xup_of (by omega) (xup_eq))
  have f5_1 : G5 (x + 1) = some (eI 0 400 (fun _ => 0)) := (w5 _ (by omega)).trans (xup_of (by omega) (xup_of (by omega) (f4_1)))
  have f5_2 : G5 (x + 15) = some (eQ 0 6 (fun _ => none)) := (w5 _ (by omega)).trans (xup_of (by omega) (xup_of (by omega) (f4_2)))
  have f5_3 : G5 (x + 19) = some (eO 10 [.ref (x + 26), .ref (x + 20), .int (bI false), .int (-1), .int (nI 0), .ref (x + 25), .int (nI nb), .int (nI 0)]) := (w5 _ (by omega)).trans (xup_of (by omega) (xup_of (by omega) (b1)))
  have hh5 : HRs G5 (x + 2) (x + 1) := hh4.fr (fun a h1 h2 => by rw [w5 a (by omega), xup_ne (by omega), xup_ne (by omega)])
  have rh5 : RRs G5 (x + 12) (x + 1) := rh4.fr (fun a h1 h2 => by rw [w5 a (by omega), xup_ne (by omega), xup_ne (by omega)])
  have jh5 : JuAt G5 (x + 16) := jh4.fr (fun a h1 h2 => by rw [w5 a (by omega), xup_ne (by omega), xup_ne (by omega)])
  have sh5 : StAt G5 (x + 19) (x + 16) core0 none := sh4.fr (fun a h1 h2 => by rw [w5 a (by omega), xup_ne (by omega), xup_ne (by omega)])
  have ah5 : AsAt G5 x := ⟨_, _, _, 0, 0, _, _, ya5, yb5, yc5⟩
  refine x_hh (h' := x + 50) rfl ?_
  refine x_pc (pc' := 105) rfl ?_
  refine x_putF (fs' := [.ref (x + 1), .int 0, .ref (x + 2), .ref (x + 12), .ref (x + 15), .int 0, .ref (x + 16), .ref (x + 19), .ref (x + 26), .ref (x + 36), .null]) dX11_init_105 fX11_61 rfl rfl (f5_0) (Nat.le_of_ble_eq_true rfl) rfl rfl rfl ?_
  refine x_aload_n dX11_init_108 0 rfl ?_
  refine x_iconst dX11_init_109 ki_4 ?_
  refine x_anew (cb := 0) (sb := 0) (t := 1) (N0 := 4) dX11_init_110 kX11_42 (by simp) (fun _ => rfl) (by decide) (by decide) (by decide) ?_
  refine x_hh (h' := x + 51) rfl ?_
  refine x_putF (fs' := [.ref (x + 1), .int 0, .ref (x + 2), .ref (x + 12), .ref (x + 15), .int 0, .ref (x + 16), .ref (x + 19), .ref (x + 26), .ref (x + 36), .ref (x + 50)]) dX11_init_113 fX11_65 rfl rfl (xup_of (by omega) (xup_eq)) (Nat.le_of_ble_eq_true rfl) rfl rfl rfl ?_
  refine x_geq (xup_dig (by omega)) ?_
  exact x_vret dX11_init_116 rfl (xEx_i _ ⟨⟨xup_of (by omega) (xup_eq), ⟨xup_of (by omega) (xup_of (by omega) (f5_1)), fun _ => by show 0 < 256; decide, by decide⟩, hh5.fr (fun a h1 h2 => by rw [xup_ne (by omega), xup_ne (by omega)]), rh5.fr (fun a h1 h2 => by rw [xup_ne (by omega), xup_ne (by omega)]), xup_of (by omega) (xup_of (by omega) (f5_2)), jh5.fr (fun a h1 h2 => by rw [xup_ne (by omega), xup_ne (by omega)]), sh5.fr (fun a h1 h2 => by rw [xup_ne (by omega), xup_ne (by omega)]), ah5.fr (fun a h1 h2 => by rw [xup_ne (by omega), xup_ne (by omega)]), xup_eq⟩, fun a ha => by rw [xup_ne (by omega), xup_ne (by omega), w5 a (by omega), xup_ne (by omega), xup_ne (by omega), w4 a (by omega), xup_ne (by omega), xup_ne (by omega), w3 a (by omega), xup_ne (by omega), xup_ne (by omega), xup_ne (by omega), w2 a (by omega), xup_ne (by omega), xup_ne (by omega), w1 a (by omega), xup_ne (by omega), xup_ne (by omega), xup_ne (by omega)]⟩ rfl rfl rfl)
