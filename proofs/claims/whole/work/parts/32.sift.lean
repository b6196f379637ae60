theorem Books_sift_loop {K : xG} {h x n : Nat} {G00 : xHp} {hl : xHl} {r : xRw} {ru : Option Nat} {rs : List (List Nat)} {ruf : Nat → Option Nat} {bk : Nat → Nat → Nat} {bn : Nat} {ch mo : Int32} (hN : DayAt G00 (x + 26) hl r (x + 16) ru) (hRs : RulesAt G00 x rs ruf) (hO : HallOk hl) (hp2 : ∀ s, s < hl 0 2 → hl 2 s < 200) (hkk : BkOk hl bk bn) (hn : n < 400) : ∀ (k j : Nat) (G0 G1 : xHp) (hk : xHl) (rk : xRw) (rt : Option Nat), j + k = rs.length + 1 → BooksAt G0 (x + 20) bk bn (cntF (fun j => fitB hl bk bn (rvJ rs j)) j) (fstF (fun j => fitB hl bk bn (rvJ rs j)) j) (alF hl rs (fun j => fitB hl bk bn (rvJ rs j)) n j) → (∀ a, ¬ (x + 20 ≤ a ∧ a < x + 25) → G0 a = G00 a) → TrW G0 G1 x hk rk rt ch mo → xV K mX1_sift 6 0 0 h G1 22 [(5, .int (nI j + (-1))), (0, .ref (x + 20)), (1, .ref (x + 15)), (2, .int (nI rs.length)), (3, .ref (x + 36)), (4, .int (nI n))] [] (xEx (fun e : (xHl × xRw × Option Nat) × xHp × xHp => BooksAt e.2.1 (x + 20) bk bn (cntF (fun j => fitB hl bk bn (rvJ rs j)) (rs.length + 1)) (fstF (fun j => fitB hl bk bn (rvJ rs j)) (rs.length + 1)) (alF hl rs (fun j => fitB hl bk bn (rvJ rs j)) n (rs.length + 1)) ∧ (∀ a, ¬ (x + 20 ≤ a ∧ a < x + 25) → e.2.1 a = G00 a) ∧ TrW e.2.1 e.2.2 x e.1.1 e.1.2.1 e.1.2.2 ch mo) (fun _ => none) (fun _ => h) (fun e => e.2.2)) := by
  have hr6 := hRs.2.1
  intro k
  induction k with
  | zero =>
    intro j G0 G1 hk rk rt hj hB0 hF hT1
    have hB1 := hT1.books hB0
    have hRu1 := ((hT1.2.2.2 (x + 15) (by omega)).trans (hF (x + 15) (by omega))).trans hRs.1
    have hj0 : j = rs.length + 1 := by omega
    subst hj0
    refine x_leq (ls' := [(5, .int (nI rs.length)), (0, .ref (x + 20)), (1, .ref (x + 15)), (2, .int (nI rs.length)), (3, .ref (x + 36)), (4, .int (nI n))]) (by rw [pk_m1]) ?_
    refine x_iload dX1_sift_22 0 rfl ?_
    refine x_iload_n dX1_sift_24 3 rfl ?_
    refine x_icmpN_ge (tgt := 111) dX1_sift_25 (by decide) (by omega) (by omega) (fun c25 => ?_) (fun c25 => ?_)
    · exact x_vret dX1_sift_111 rfl (xEx_i ((hk, rk, rt), G0, G1) ⟨hB0, hF, hT1⟩ rfl rfl rfl)
    · exact absurd c25 (by omega)
  | succ k ih =>
    intro j G0 G1 hk rk rt hj hB0 hF hT1
    have hB1 := hT1.books hB0
    have hRu1 := ((hT1.2.2.2 (x + 15) (by omega)).trans (hF (x + 15) (by omega))).trans hRs.1
    have hN0 : DayAt G0 (x + 26) hl r (x + 16) ru := hN.fr (fun a h1 h2 => hF a (by omega))
    have hR0 := hRs.fr (hF (x + 15) (by omega)) (fun a h1 => hF a (by omega))
    have hcl := cntF_le (fun j => fitB hl bk bn (rvJ rs j)) j
    have hal := alF_le (rs := rs) (p := (fun j => fitB hl bk bn (rvJ rs j))) (n := n) hO hp2 j
    rcases j with _ | i
    · refine x_leq (ls' := [(5, .int (-1)), (0, .ref (x + 20)), (1, .ref (x + 15)), (2, .int (nI rs.length)), (3, .ref (x + 36)), (4, .int (nI n))]) (by rfl) ?_
      have hRi : RuleIn G0 none (rvJ rs 0) (x + 51) := Or.inl ⟨rfl, rfl⟩
      refine x_iload dX1_sift_22 0 rfl ?_
      refine x_iload_n dX1_sift_24 3 rfl ?_
      refine x_icmp_ge (x := (-1)) (y := nI rs.length) (tgt := 111) dX1_sift_25 (by decide) (fun c25 => ?_) (fun c25 => ?_)
      · exact absurd c25 (fun q => absurd q (by have := Int32.le_iff_toInt_le.mp c25; rw [nI_toInt (by omega)] at this; exact absurd this (by show ¬ ((rs.length : Int) ≤ -1); omega)))
      · refine x_iload dX1_sift_28 0 rfl ?_
        refine x_aload_n dX1_sift_30 2 rfl ?_
        refine x_alenQ dX1_sift_31 (hRu1) ?_
        refine x_icmp_ge (x := (-1)) (y := nI 6) (tgt := 111) dX1_sift_32 (by decide) (fun c32 => ?_) (fun c32 => ?_)
        · exact absurd c32 (by decide)
        · refine x_iload dX1_sift_35 0 rfl ?_
          refine x_if_ge (tgt := 44) dX1_sift_37 (by decide) (fun c37 => ?_) (fun c37 => ?_)
          · exact absurd c37 (by decide)
          · refine x_pc (pc' := 40) rfl ?_
            refine x_null dX1_sift_40 ?_
            refine x_goto (tgt := 48) dX1_sift_41 (by decide) ?_
            refine x_astoreN (ls' := [(6, .null), (5, .int (-1)), (0, .ref (x + 20)), (1, .ref (x + 15)), (2, .int (nI rs.length)), (3, .ref (x + 36)), (4, .int (nI n))]) dX1_sift_48 (by decide) rfl ?_
            refine x_aload_n dX1_sift_50 2 rfl ?_
            refine x_aload_n dX1_sift_51 5 rfl ?_
            refine x_aloadN dX1_sift_52 0 rfl ?_
            refine x_cVe (N := mX0_fromBegin) (d' := 3) (mc := 0) (ms := 0) (cb := 0) (sb := 0) (As := [.null]) (st := [.ref (x + 20)]) dX1_sift_54 mX0_fromBegin_v lX1_46 rfl rfl (hT1.1) rfl (by decide) (Nat.le_of_ble_eq_true rfl) (Asks_fromBegin_n hN0 hT1) rfl (sf := fun G2 => [.ref (x + 37), .ref (x + 20)]) (fun _ => rfl) (fun G2 hT2 => ?_)
            have hB2 := hT2.books hB0
            have hRu2 := (hT2.2.2.2 (x + 15) (by omega)).trans hR0.1
            refine x_cVe (N := mX1_fits) (d' := 4) (mc := 0) (ms := 0) (cb := 0) (sb := 0) (As := [.ref (x + 37)]) (st := []) dX1_sift_57 mX1_fits_v lX1_52 rfl rfl (hB2.1) rfl (by decide) (Nat.le_of_ble_eq_true rfl) (Books_fits hB0 hRi hO hp2 hkk hT2) rfl (sf := fun e3 => [.int (bI (fitB hl bk bn (rvJ rs 0)))]) (fun _ => rfl) (fun e3 hq3 => ?_)
            obtain ⟨rk3, G3⟩ := e3
            have hT3 : TrW G0 G3 x hl rk3 none ch mo := hq3
            have hB3 := hT3.books hB0
            have hRu3 := (hT3.2.2.2 (x + 15) (by omega)).trans hR0.1
            refine x_ifB_eq (tgt := 105) dX1_sift_60 (by decide) (fun c60 => ?_) (fun c60 => ?_)
            · refine x_iinc (v := (-1) + (1)) (ls' := [(5, .int ((-1) + (1))), (6, .null), (0, .ref (x + 20)), (1, .ref (x + 15)), (2, .int (nI rs.length)), (3, .ref (x + 36)), (4, .int (nI n))]) dX1_sift_105 1 rfl rfl (by decide) rfl ?_
              refine x_pc (pc' := 108) rfl ?_
              refine x_goto (tgt := 22) dX1_sift_108 (by decide) ?_
              refine x_perm (ls' := [(5, .int ((-1) + (1))), (0, .ref (x + 20)), (1, .ref (x + 15)), (2, .int (nI rs.length)), (3, .ref (x + 36)), (4, .int (nI n))]) [0, 2, 3, 4, 5, 6] rfl ?_
              refine x_leq (ls' := [(5, .int (nI (0 + 1) + (-1))), (0, .ref (x + 20)), (1, .ref (x + 15)), (2, .int (nI rs.length)), (3, .ref (x + 36)), (4, .int (nI n))]) (by rfl) ?_
              exact ih (0 + 1) G0 G3 hl rk3 none (by omega) (by rw [← cntF_f (p := (fun j => fitB hl bk bn (rvJ rs j))) c60]; rw [fstF_k (p := (fun j => fitB hl bk bn (rvJ rs j))) (fun q => absurd (c60.symm.trans q.1) (by decide)), alF_k (p := (fun j => fitB hl bk bn (rvJ rs j))) c60]; exact hB0) hF hT3
            · refine x_aload_n dX1_sift_63 2 rfl ?_
              refine x_pc (pc' := 64) rfl ?_
              refine x_aload_n dX1_sift_64 2 rfl ?_
              refine x_get dX1_sift_65 fX1_34 (hB3.1) rfl ?_
              refine x_ifN_ne (tgt := 76) dX1_sift_68 (by decide) (by omega) (fun c68 => ?_) (fun c68 => ?_)
              · refine x_aload_n dX1_sift_76 2 rfl ?_
                refine x_get dX1_sift_77 fX1_37 (hB3.1) rfl ?_
                refine x_put (fs' := [.ref (x + 21), .ref (x + 22), .ref (x + 23), .int (nI bn), .int (nI (cntF (fun j => fitB hl bk bn (rvJ rs j)) 0)), .int (fstF (fun j => fitB hl bk bn (rvJ rs j)) 0), .ref (x + 24)]) dX1_sift_80 fX1_37 (hB3.1) (Nat.le_of_ble_eq_true rfl) rfl rfl rfl ?_
                refine x_aload_n dX1_sift_83 2 rfl ?_
                refine x_dup dX1_sift_84 rfl ?_
                refine x_get dX1_sift_85 fX1_34 (xup_eq) rfl ?_
                refine x_iconst dX1_sift_88 ki_1 ?_
                refine x_pc (pc' := 89) rfl ?_
                refine x_iaddN dX1_sift_89 ?_
                refine x_put (fs' := [.ref (x + 21), .ref (x + 22), .ref (x + 23), .int (nI bn), .int (nI ((cntF (fun j => fitB hl bk bn (rvJ rs j)) 0) + 1)), .int (fstF (fun j => fitB hl bk bn (rvJ rs j)) 0), .ref (x + 24)]) dX1_sift_90 fX1_34 (xup_eq) (Nat.le_of_ble_eq_true rfl) rfl rfl rfl ?_
                refine x_geq xup_up ?_
                have hT4 := hT3.both (a := x + 20) (eO 1 [.ref (x + 21), .ref (x + 22), .ref (x + 23), .int (nI bn), .int (nI ((cntF (fun j => fitB hl bk bn (rvJ rs j)) 0) + 1)), .int (fstF (fun j => fitB hl bk bn (rvJ rs j)) 0), .ref (x + 24)]) (by omega)
                have hB4 := hB0.obj bn ((cntF (fun j => fitB hl bk bn (rvJ rs j)) 0) + 1) (fstF (fun j => fitB hl bk bn (rvJ rs j)) 0)
                have hN4 := hN0.off (a := x + 20) (e := eO 1 [.ref (x + 21), .ref (x + 22), .ref (x + 23), .int (nI bn), .int (nI ((cntF (fun j => fitB hl bk bn (rvJ rs j)) 0) + 1)), .int (fstF (fun j => fitB hl bk bn (rvJ rs j)) 0), .ref (x + 24)]) (by omega)
                have hR4 := hRi.fr (G' := xup G0 (x + 20) (eO 1 [.ref (x + 21), .ref (x + 22), .ref (x + 23), .int (nI bn), .int (nI ((cntF (fun j => fitB hl bk bn (rvJ rs j)) 0) + 1)), .int (fstF (fun j => fitB hl bk bn (rvJ rs j)) 0), .ref (x + 24)])) (fun a h1 => xup_ne (by omega))
                refine x_aload_n dX1_sift_93 2 rfl ?_
                refine x_aload_n dX1_sift_94 5 rfl ?_
                refine x_aloadN dX1_sift_95 0 rfl ?_
                refine x_cVe (N := mX0_fromBegin) (d' := 3) (mc := 0) (ms := 0) (cb := 0) (sb := 0) (As := [.null]) (st := [.ref (x + 20)]) dX1_sift_97 mX0_fromBegin_v lX1_46 rfl rfl (hT4.1) rfl (by decide) (Nat.le_of_ble_eq_true rfl) (Asks_fromBegin_n hN4 hT4) rfl (sf := fun G5 => [.ref (x + 37), .ref (x + 20)]) (fun _ => rfl) (fun G5 hT5 => ?_)
                have hB5 := hT5.books hB4
                have hRu5 := (hT5.2.2.2 (x + 15) (by omega)).trans ((xup_ne (by omega)).trans hR0.1)
                refine x_iload dX1_sift_100 6 rfl ?_
                refine x_cVe (N := mX1_noteThings) (d' := 5) (mc := 0) (ms := 0) (cb := 0) (sb := 0) (As := [.ref (x + 37), .int (nI n)]) (st := []) dX1_sift_102 mX1_noteThings_v lX1_56 rfl rfl (hB5.1) rfl (by decide) (Nat.le_of_ble_eq_true rfl) (Books_noteThings hB4 hR4 hO hp2 (fun q => by have := hal q; omega) hn hT5) rfl (sf := fun e6 => []) (fun _ => rfl) (fun e6 hq6 => ?_)
                obtain ⟨rk6, G6⟩ := e6
                have hT6 : TrW _ G6 x hl rk6 none ch mo := hq6
                refine x_iinc (v := (-1) + (1)) (ls' := [(5, .int ((-1) + (1))), (6, .null), (0, .ref (x + 20)), (1, .ref (x + 15)), (2, .int (nI rs.length)), (3, .ref (x + 36)), (4, .int (nI n))]) dX1_sift_105 1 rfl rfl (by decide) rfl ?_
                refine x_goto (tgt := 22) dX1_sift_108 (by decide) ?_
                refine x_perm (ls' := [(5, .int ((-1) + (1))), (0, .ref (x + 20)), (1, .ref (x + 15)), (2, .int (nI rs.length)), (3, .ref (x + 36)), (4, .int (nI n))]) [0, 2, 3, 4, 5, 6] rfl ?_
                refine x_leq (ls' := [(5, .int (nI (0 + 1) + (-1))), (0, .ref (x + 20)), (1, .ref (x + 15)), (2, .int (nI rs.length)), (3, .ref (x + 36)), (4, .int (nI n))]) (by rfl) ?_
                exact ih (0 + 1) _ G6 hl rk6 none (by omega) (by rw [← cntF_t (p := (fun j => fitB hl bk bn (rvJ rs j))) c60]; rw [fstF_k (p := (fun j => fitB hl bk bn (rvJ rs j))) (fun q => c68 q.2), alF_n (p := (fun j => fitB hl bk bn (rvJ rs j))) c60]; exact hB4.alike _) (fun a h1 => by rw [xup_ne (by omega), xup_ne (by omega)]; exact hF a h1) hT6
              · refine x_iload dX1_sift_71 1 rfl ?_
                refine x_goto (tgt := 80) dX1_sift_73 (by decide) ?_
                refine x_put (fs' := [.ref (x + 21), .ref (x + 22), .ref (x + 23), .int (nI bn), .int (nI (cntF (fun j => fitB hl bk bn (rvJ rs j)) 0)), .int (-1), .ref (x + 24)]) dX1_sift_80 fX1_37 (hB3.1) (Nat.le_of_ble_eq_true rfl) rfl rfl rfl ?_
                refine x_aload_n dX1_sift_83 2 rfl ?_
                refine x_dup dX1_sift_84 rfl ?_
                refine x_get dX1_sift_85 fX1_34 (xup_eq) rfl ?_
                refine x_iconst dX1_sift_88 ki_1 ?_
                refine x_pc (pc' := 89) rfl ?_
                refine x_iaddN dX1_sift_89 ?_
                refine x_put (fs' := [.ref (x + 21), .ref (x + 22), .ref (x + 23), .int (nI bn), .int (nI ((cntF (fun j => fitB hl bk bn (rvJ rs j)) 0) + 1)), .int (-1), .ref (x + 24)]) dX1_sift_90 fX1_34 (xup_eq) (Nat.le_of_ble_eq_true rfl) rfl rfl rfl ?_
                refine x_geq xup_up ?_
                have hT4 := hT3.both (a := x + 20) (eO 1 [.ref (x + 21), .ref (x + 22), .ref (x + 23), .int (nI bn), .int (nI ((cntF (fun j => fitB hl bk bn (rvJ rs j)) 0) + 1)), .int (-1), .ref (x + 24)]) (by omega)
                have hB4 := hB0.obj bn ((cntF (fun j => fitB hl bk bn (rvJ rs j)) 0) + 1) (-1)
                have hN4 := hN0.off (a := x + 20) (e := eO 1 [.ref (x + 21), .ref (x + 22), .ref (x + 23), .int (nI bn), .int (nI ((cntF (fun j => fitB hl bk bn (rvJ rs j)) 0) + 1)), .int (-1), .ref (x + 24)]) (by omega)
                have hR4 := hRi.fr (G' := xup G0 (x + 20) (eO 1 [.ref (x + 21), .ref (x + 22), .ref (x + 23), .int (nI bn), .int (nI ((cntF (fun j => fitB hl bk bn (rvJ rs j)) 0) + 1)), .int (-1), .ref (x + 24)])) (fun a h1 => xup_ne (by omega))
                refine x_aload_n dX1_sift_93 2 rfl ?_
                refine x_aload_n dX1_sift_94 5 rfl ?_
                refine x_aloadN dX1_sift_95 0 rfl ?_
                refine x_cVe (N := mX0_fromBegin) (d' := 3) (mc := 0) (ms := 0) (cb := 0) (sb := 0) (As := [.null]) (st := [.ref (x + 20)]) dX1_sift_97 mX0_fromBegin_v lX1_46 rfl rfl (hT4.1) rfl (by decide) (Nat.le_of_ble_eq_true rfl) (Asks_fromBegin_n hN4 hT4) rfl (sf := fun G5 => [.ref (x + 37), .ref (x + 20)]) (fun _ => rfl) (fun G5 hT5 => ?_)
                have hB5 := hT5.books hB4
                have hRu5 := (hT5.2.2.2 (x + 15) (by omega)).trans ((xup_ne (by omega)).trans hR0.1)
                refine x_iload dX1_sift_100 6 rfl ?_
                refine x_cVe (N := mX1_noteThings) (d' := 5) (mc := 0) (ms := 0) (cb := 0) (sb := 0) (As := [.ref (x + 37), .int (nI n)]) (st := []) dX1_sift_102 mX1_noteThings_v lX1_56 rfl rfl (hB5.1) rfl (by decide) (Nat.le_of_ble_eq_true rfl) (Books_noteThings hB4 hR4 hO hp2 (fun q => by have := hal q; omega) hn hT5) rfl (sf := fun e6 => []) (fun _ => rfl) (fun e6 hq6 => ?_)
                obtain ⟨rk6, G6⟩ := e6
                have hT6 : TrW _ G6 x hl rk6 none ch mo := hq6
                refine x_iinc (v := (-1) + (1)) (ls' := [(5, .int ((-1) + (1))), (6, .null), (0, .ref (x + 20)), (1, .ref (x + 15)), (2, .int (nI rs.length)), (3, .ref (x + 36)), (4, .int (nI n))]) dX1_sift_105 1 rfl rfl (by decide) rfl ?_
                refine x_goto (tgt := 22) dX1_sift_108 (by decide) ?_
                refine x_perm (ls' := [(5, .int ((-1) + (1))), (0, .ref (x + 20)), (1, .ref (x + 15)), (2, .int (nI rs.length)), (3, .ref (x + 36)), (4, .int (nI n))]) [0, 2, 3, 4, 5, 6] rfl ?_
                refine x_leq (ls' := [(5, .int (nI (0 + 1) + (-1))), (0, .ref (x + 20)), (1, .ref (x + 15)), (2, .int (nI rs.length)), (3, .ref (x + 36)), (4, .int (nI n))]) (by rfl) ?_
                exact ih (0 + 1) _ G6 hl rk6 none (by omega) (by rw [← cntF_t (p := (fun j => fitB hl bk bn (rvJ rs j))) c60]; rw [fstF_n (p := (fun j => fitB hl bk bn (rvJ rs j))) ⟨c60, c68⟩, alF_n (p := (fun j => fitB hl bk bn (rvJ rs j))) c60]; exact hB4.alike _) (fun a h1 => by rw [xup_ne (by omega), xup_ne (by omega)]; exact hF a h1) hT6
    · refine x_leq (ls' := [(5, .int (nI i)), (0, .ref (x + 20)), (1, .ref (x + 15)), (2, .int (nI rs.length)), (3, .ref (x + 36)), (4, .int (nI n))]) (by rw [pk_m1]) ?_
      obtain ⟨ra, hra, hRi⟩ := hR0.get (k := i) (by omega)
      refine x_iload dX1_sift_22 0 rfl ?_
      refine x_iload_n dX1_sift_24 3 rfl ?_
      refine x_icmpN_ge (tgt := 111) dX1_sift_25 (by decide) (by omega) (by omega) (fun c25 => ?_) (fun c25 => ?_)
      · exact absurd c25 (by omega)
      · refine x_iload dX1_sift_28 0 rfl ?_
        refine x_aload_n dX1_sift_30 2 rfl ?_
        refine x_alenQ dX1_sift_31 (hRu1) ?_
        refine x_icmpN_ge (tgt := 111) dX1_sift_32 (by decide) (by omega) (by omega) (fun c32 => ?_) (fun c32 => ?_)
        · exact absurd c32 (by omega)
        · refine x_iload dX1_sift_35 0 rfl ?_
          refine x_ifN_ge (tgt := 44) dX1_sift_37 (by decide) (by omega) (fun c37 => ?_) (fun c37 => ?_)
          · refine x_pc (pc' := 44) rfl ?_
            refine x_aload_n dX1_sift_44 2 rfl ?_
            refine x_iload dX1_sift_45 0 rfl ?_
            refine x_aald4N dX1_sift_47 (hRu1) (by omega) (by decide) ?_
            refine x_seq (st' := [.ref ra]) (by rw [hra]; rfl) ?_
            refine x_astore (ls' := [(6, .ref ra), (5, .int (nI i)), (0, .ref (x + 20)), (1, .ref (x + 15)), (2, .int (nI rs.length)), (3, .ref (x + 36)), (4, .int (nI n))]) dX1_sift_48 (by decide) rfl ?_
            refine x_aload_n dX1_sift_50 2 rfl ?_
            refine x_aload_n dX1_sift_51 5 rfl ?_
            refine x_aload dX1_sift_52 0 rfl ?_
            refine x_cVe (N := mX0_fromBegin) (d' := 3) (mc := 0) (ms := 0) (cb := 0) (sb := 0) (As := [.ref ra]) (st := [.ref (x + 20)]) dX1_sift_54 mX0_fromBegin_v lX1_46 rfl rfl (hT1.1) rfl (by decide) (Nat.le_of_ble_eq_true rfl) (Asks_fromBegin_s hN0 hT1) rfl (sf := fun G2 => [.ref (x + 37), .ref (x + 20)]) (fun _ => rfl) (fun G2 hT2 => ?_)
            have hB2 := hT2.books hB0
            have hRu2 := (hT2.2.2.2 (x + 15) (by omega)).trans hR0.1
            refine x_cVe (N := mX1_fits) (d' := 4) (mc := 0) (ms := 0) (cb := 0) (sb := 0) (As := [.ref (x + 37)]) (st := []) dX1_sift_57 mX1_fits_v lX1_52 rfl rfl (hB2.1) rfl (by decide) (Nat.le_of_ble_eq_true rfl) (Books_fits hB0 hRi hO hp2 hkk hT2) rfl (sf := fun e3 => [.int (bI (fitB hl bk bn (rvJ rs (i + 1))))]) (fun _ => rfl) (fun e3 hq3 => ?_)
            obtain ⟨rk3, G3⟩ := e3
            have hT3 : TrW G0 G3 x hl rk3 (some ra) ch mo := hq3
            have hB3 := hT3.books hB0
            have hRu3 := (hT3.2.2.2 (x + 15) (by omega)).trans hR0.1
            refine x_ifB_eq (tgt := 105) dX1_sift_60 (by decide) (fun c60 => ?_) (fun c60 => ?_)
            · refine x_pc (pc' := 105) rfl ?_
              refine x_iinc (v := nI (i + 1)) (ls' := [(5, .int (nI (i + 1))), (6, .ref ra), (0, .ref (x + 20)), (1, .ref (x + 15)), (2, .int (nI rs.length)), (3, .ref (x + 36)), (4, .int (nI n))]) dX1_sift_105 1 rfl (nIs _) (by decide) rfl ?_
              refine x_goto (tgt := 22) dX1_sift_108 (by decide) ?_
              refine x_perm (ls' := [(5, .int (nI (i + 1))), (0, .ref (x + 20)), (1, .ref (x + 15)), (2, .int (nI rs.length)), (3, .ref (x + 36)), (4, .int (nI n))]) [0, 2, 3, 4, 5, 6] rfl ?_
              refine x_leq (ls' := [(5, .int (nI (i + 1 + 1) + (-1))), (0, .ref (x + 20)), (1, .ref (x + 15)), (2, .int (nI rs.length)), (3, .ref (x + 36)), (4, .int (nI n))]) (by rw [pk_m1]) ?_
              exact ih (i + 1 + 1) G0 G3 hl rk3 (some ra) (by omega) (by rw [← cntF_f (p := (fun j => fitB hl bk bn (rvJ rs j))) c60]; rw [fstF_k (p := (fun j => fitB hl bk bn (rvJ rs j))) (fun q => absurd (c60.symm.trans q.1) (by decide)), alF_k (p := (fun j => fitB hl bk bn (rvJ rs j))) c60]; exact hB0) hF hT3
            · refine x_pc (pc' := 63) rfl ?_
              refine x_aload_n dX1_sift_63 2 rfl ?_
              refine x_aload_n dX1_sift_64 2 rfl ?_
              refine x_get dX1_sift_65 fX1_34 (hB3.1) rfl ?_
              refine x_ifN_ne (tgt := 76) dX1_sift_68 (by decide) (by omega) (fun c68 => ?_) (fun c68 => ?_)
              · refine x_aload_n dX1_sift_76 2 rfl ?_
                refine x_get dX1_sift_77 fX1_37 (hB3.1) rfl ?_
                refine x_put (fs' := [.ref (x + 21), .ref (x + 22), .ref (x + 23), .int (nI bn), .int (nI (cntF (fun j => fitB hl bk bn (rvJ rs j)) (i + 1))), .int (fstF (fun j => fitB hl bk bn (rvJ rs j)) (i + 1)), .ref (x + 24)]) dX1_sift_80 fX1_37 (hB3.1) (Nat.le_of_ble_eq_true rfl) rfl rfl rfl ?_
                refine x_aload_n dX1_sift_83 2 rfl ?_
                refine x_dup dX1_sift_84 rfl ?_
                refine x_get dX1_sift_85 fX1_34 (xup_eq) rfl ?_
                refine x_pc (pc' := 88) rfl ?_
                refine x_iconst dX1_sift_88 ki_1 ?_
                refine x_iaddN dX1_sift_89 ?_
                refine x_put (fs' := [.ref (x + 21), .ref (x + 22), .ref (x + 23), .int (nI bn), .int (nI ((cntF (fun j => fitB hl bk bn (rvJ rs j)) (i + 1)) + 1)), .int (fstF (fun j => fitB hl bk bn (rvJ rs j)) (i + 1)), .ref (x + 24)]) dX1_sift_90 fX1_34 (xup_eq) (Nat.le_of_ble_eq_true rfl) rfl rfl rfl ?_
                refine x_geq xup_up ?_
                have hT4 := hT3.both (a := x + 20) (eO 1 [.ref (x + 21), .ref (x + 22), .ref (x + 23), .int (nI bn), .int (nI ((cntF (fun j => fitB hl bk bn (rvJ rs j)) (i + 1)) + 1)), .int (fstF (fun j => fitB hl bk bn (rvJ rs j)) (i + 1)), .ref (x + 24)]) (by omega)
                have hB4 := hB0.obj bn ((cntF (fun j => fitB hl bk bn (rvJ rs j)) (i + 1)) + 1) (fstF (fun j => fitB hl bk bn (rvJ rs j)) (i + 1))
                have hN4 := hN0.off (a := x + 20) (e := eO 1 [.ref (x + 21), .ref (x + 22), .ref (x + 23), .int (nI bn), .int (nI ((cntF (fun j => fitB hl bk bn (rvJ rs j)) (i + 1)) + 1)), .int (fstF (fun j => fitB hl bk bn (rvJ rs j)) (i + 1)), .ref (x + 24)]) (by omega)
                have hR4 := hRi.fr (G' := xup G0 (x + 20) (eO 1 [.ref (x + 21), .ref (x + 22), .ref (x + 23), .int (nI bn), .int (nI ((cntF (fun j => fitB hl bk bn (rvJ rs j)) (i + 1)) + 1)), .int (fstF (fun j => fitB hl bk bn (rvJ rs j)) (i + 1)), .ref (x + 24)])) (fun a h1 => xup_ne (by omega))
                refine x_aload_n dX1_sift_93 2 rfl ?_
                refine x_aload_n dX1_sift_94 5 rfl ?_
                refine x_aload dX1_sift_95 0 rfl ?_
                refine x_cVe (N := mX0_fromBegin) (d' := 3) (mc := 0) (ms := 0) (cb := 0) (sb := 0) (As := [.ref ra]) (st := [.ref (x + 20)]) dX1_sift_97 mX0_fromBegin_v lX1_46 rfl rfl (hT4.1) rfl (by decide) (Nat.le_of_ble_eq_true rfl) (Asks_fromBegin_s hN4 hT4) rfl (sf := fun G5 => [.ref (x + 37), .ref (x + 20)]) (fun _ => rfl) (fun G5 hT5 => ?_)
                have hB5 := hT5.books hB4
                have hRu5 := (hT5.2.2.2 (x + 15) (by omega)).trans ((xup_ne (by omega)).trans hR0.1)
                refine x_iload dX1_sift_100 6 rfl ?_
                refine x_cVe (N := mX1_noteThings) (d' := 5) (mc := 0) (ms := 0) (cb := 0) (sb := 0) (As := [.ref (x + 37), .int (nI n)]) (st := []) dX1_sift_102 mX1_noteThings_v lX1_56 rfl rfl (hB5.1) rfl (by decide) (Nat.le_of_ble_eq_true rfl) (Books_noteThings hB4 hR4 hO hp2 (fun q => by have := hal q; omega) hn hT5) rfl (sf := fun e6 => []) (fun _ => rfl) (fun e6 hq6 => ?_)
                obtain ⟨rk6, G6⟩ := e6
                have hT6 : TrW _ G6 x hl rk6 (some ra) ch mo := hq6
                refine x_iinc (v := nI (i + 1)) (ls' := [(5, .int (nI (i + 1))), (6, .ref ra), (0, .ref (x + 20)), (1, .ref (x + 15)), (2, .int (nI rs.length)), (3, .ref (x + 36)), (4, .int (nI n))]) dX1_sift_105 1 rfl (nIs _) (by decide) rfl ?_
                refine x_pc (pc' := 108) rfl ?_
                refine x_goto (tgt := 22) dX1_sift_108 (by decide) ?_
                refine x_perm (ls' := [(5, .int (nI (i + 1))), (0, .ref (x + 20)), (1, .ref (x + 15)), (2, .int (nI rs.length)), (3, .ref (x + 36)), (4, .int (nI n))]) [0, 2, 3, 4, 5, 6] rfl ?_
                refine x_leq (ls' := [(5, .int (nI (i + 1 + 1) + (-1))), (0, .ref (x + 20)), (1, .ref (x + 15)), (2, .int (nI rs.length)), (3, .ref (x + 36)), (4, .int (nI n))]) (by rw [pk_m1]) ?_
                exact ih (i + 1 + 1) _ G6 hl rk6 (some ra) (by omega) (by rw [← cntF_t (p := (fun j => fitB hl bk bn (rvJ rs j))) c60]; rw [fstF_k (p := (fun j => fitB hl bk bn (rvJ rs j))) (fun q => c68 q.2), alF_n (p := (fun j => fitB hl bk bn (rvJ rs j))) c60]; exact hB4.alike _) (fun a h1 => by rw [xup_ne (by omega), xup_ne (by omega)]; exact hF a h1) hT6
              · refine x_iload dX1_sift_71 1 rfl ?_
                refine x_goto (tgt := 80) dX1_sift_73 (by decide) ?_
                refine x_put (fs' := [.ref (x + 21), .ref (x + 22), .ref (x + 23), .int (nI bn), .int (nI (cntF (fun j => fitB hl bk bn (rvJ rs j)) (i + 1))), .int (nI i), .ref (x + 24)]) dX1_sift_80 fX1_37 (hB3.1) (Nat.le_of_ble_eq_true rfl) rfl rfl rfl ?_
                refine x_aload_n dX1_sift_83 2 rfl ?_
                refine x_dup dX1_sift_84 rfl ?_
                refine x_get dX1_sift_85 fX1_34 (xup_eq) rfl ?_
                refine x_pc (pc' := 88) rfl ?_
                refine x_iconst dX1_sift_88 ki_1 ?_
                refine x_iaddN dX1_sift_89 ?_
                refine x_put (fs' := [.ref (x + 21), .ref (x + 22), .ref (x + 23), .int (nI bn), .int (nI ((cntF (fun j => fitB hl bk bn (rvJ rs j)) (i + 1)) + 1)), .int (nI i), .ref (x + 24)]) dX1_sift_90 fX1_34 (xup_eq) (Nat.le_of_ble_eq_true rfl) rfl rfl rfl ?_
                refine x_geq xup_up ?_
                have hT4 := hT3.both (a := x + 20) (eO 1 [.ref (x + 21), .ref (x + 22), .ref (x + 23), .int (nI bn), .int (nI ((cntF (fun j => fitB hl bk bn (rvJ rs j)) (i + 1)) + 1)), .int (nI i), .ref (x + 24)]) (by omega)
                have hB4 := hB0.obj bn ((cntF (fun j => fitB hl bk bn (rvJ rs j)) (i + 1)) + 1) (nI i)
                have hN4 := hN0.off (a := x + 20) (e := eO 1 [.ref (x + 21), .ref (x + 22), .ref (x + 23), .int (nI bn), .int (nI ((cntF (fun j => fitB hl bk bn (rvJ rs j)) (i + 1)) + 1)), .int (nI i), .ref (x + 24)]) (by omega)
                have hR4 := hRi.fr (G' := xup G0 (x + 20) (eO 1 [.ref (x + 21), .ref (x + 22), .ref (x + 23), .int (nI bn), .int (nI ((cntF (fun j => fitB hl bk bn (rvJ rs j)) (i + 1)) + 1)), .int (nI i), .ref (x + 24)])) (fun a h1 => xup_ne (by omega))
                refine x_aload_n dX1_sift_93 2 rfl ?_
                refine x_aload_n dX1_sift_94 5 rfl ?_
                refine x_aload dX1_sift_95 0 rfl ?_
                refine x_cVe (N := mX0_fromBegin) (d' := 3) (mc := 0) (ms := 0) (cb := 0) (sb := 0) (As := [.ref ra]) (st := [.ref (x + 20)]) dX1_sift_97 mX0_fromBegin_v lX1_46 rfl rfl (hT4.1) rfl (by decide) (Nat.le_of_ble_eq_true rfl) (Asks_fromBegin_s hN4 hT4) rfl (sf := fun G5 => [.ref (x + 37), .ref (x + 20)]) (fun _ => rfl) (fun G5 hT5 => ?_)
                have hB5 := hT5.books hB4
                have hRu5 := (hT5.2.2.2 (x + 15) (by omega)).trans ((xup_ne (by omega)).trans hR0.1)
                refine x_iload dX1_sift_100 6 rfl ?_
                refine x_cVe (N := mX1_noteThings) (d' := 5) (mc := 0) (ms := 0) (cb := 0) (sb := 0) (As := [.ref (x + 37), .int (nI n)]) (st := []) dX1_sift_102 mX1_noteThings_v lX1_56 rfl rfl (hB5.1) rfl (by decide) (Nat.le_of_ble_eq_true rfl) (Books_noteThings hB4 hR4 hO hp2 (fun q => by have := hal q; omega) hn hT5) rfl (sf := fun e6 => []) (fun _ => rfl) (fun e6 hq6 => ?_)
                obtain ⟨rk6, G6⟩ := e6
                have hT6 : TrW _ G6 x hl rk6 (some ra) ch mo := hq6
                refine x_iinc (v := nI (i + 1)) (ls' := [(5, .int (nI (i + 1))), (6, .ref ra), (0, .ref (x + 20)), (1, .ref (x + 15)), (2, .int (nI rs.length)), (3, .ref (x + 36)), (4, .int (nI n))]) dX1_sift_105 1 rfl (nIs _) (by decide) rfl ?_
                refine x_pc (pc' := 108) rfl ?_
                refine x_goto (tgt := 22) dX1_sift_108 (by decide) ?_
                refine x_perm (ls' := [(5, .int (nI (i + 1))), (0, .ref (x + 20)), (1, .ref (x + 15)), (2, .int (nI rs.length)), (3, .ref (x + 36)), (4, .int (nI n))]) [0, 2, 3, 4, 5, 6] rfl ?_
                refine x_leq (ls' := [(5, .int (nI (i + 1 + 1) + (-1))), (0, .ref (x + 20)), (1, .ref (x + 15)), (2, .int (nI rs.length)), (3, .ref (x + 36)), (4, .int (nI n))]) (by rw [pk_m1]) ?_
                exact ih (i + 1 + 1) _ G6 hl rk6 (some ra) (by omega) (by rw [← cntF_t (p := (fun j => fitB hl bk bn (rvJ rs j))) c60]; rw [fstF_n (p := (fun j => fitB hl bk bn (rvJ rs j))) ⟨c60, c68⟩, alF_n (p := (fun j => fitB hl bk bn (rvJ rs j))) c60]; rw [pk_m1]; exact hB4.alike _) (fun a h1 => by rw [xup_ne (by omega), xup_ne (by omega)]; exact hF a h1) hT6
          · exact absurd c37 id
theorem Books_sift {K : xG} {h x n : Nat} {G00 : xHp} {hl : xHl} {r : xRw} {ru : Option Nat} {rs : List (List Nat)} {ruf : Nat → Option Nat} {bk : Nat → Nat → Nat} {bn : Nat} {ch mo : Int32} {G : xHp} {hk : xHl} {rk : xRw} {rt : Option Nat} {fi : Nat} {fs : Int32} {al : Nat → Nat} (hN : DayAt G00 (x + 26) hl r (x + 16) ru) (hRs : RulesAt G00 x rs ruf) (hO : HallOk hl) (hp2 : ∀ s, s < hl 0 2 → hl 2 s < 200) (hkk : BkOk hl bk bn) (hn : n < 400) (hB : BooksAt G00 (x + 20) bk bn fi fs al) (hT : TrW G00 G x hk rk rt ch mo) : xCall K mX1_sift 6 0 0 [.ref (x + 20), .ref (x + 15), .int (nI rs.length), .ref (x + 36), .int (nI n)] h G (xEx (fun e : (xHl × xRw × Option Nat) × xHp × xHp => BooksAt e.2.1 (x + 20) bk bn (cntF (fun j => fitB hl bk bn (rvJ rs j)) (rs.length + 1)) (fstF (fun j => fitB hl bk bn (rvJ rs j)) (rs.length + 1)) (alF hl rs (fun j => fitB hl bk bn (rvJ rs j)) n (rs.length + 1)) ∧ (∀ a, ¬ (x + 20 ≤ a ∧ a < x + 25) → e.2.1 a = G00 a) ∧ TrW e.2.1 e.2.2 x e.1.1 e.1.2.1 e.1.2.2 ch mo) (fun _ => none) (fun _ => h) (fun e => e.2.2)) := by
  refine x_entry (by decide) (ls := [(0, .ref (x + 20)), (1, .ref (x + 15)), (2, .int (nI rs.length)), (3, .ref (x + 36)), (4, .int (nI n))]) rfl (Nat.le_of_ble_eq_true rfl) ?_
  have hB1 := hT.books hB
  refine x_aload_n dX1_sift_0 0 rfl ?_
  refine x_iconst dX1_sift_1 ki_0 ?_
  refine x_put (fs' := [.ref (x + 21), .ref (x + 22), .ref (x + 23), .int (nI bn), .int (nI 0), .int fs, .ref (x + 24)]) dX1_sift_2 fX1_34 (hB1.1) (Nat.le_of_ble_eq_true rfl) rfl rfl rfl ?_
  refine x_aload_n dX1_sift_5 0 rfl ?_
  refine x_bipush dX1_sift_6 kb_m2 ?_
  refine x_put (fs' := [.ref (x + 21), .ref (x + 22), .ref (x + 23), .int (nI bn), .int (nI 0), .int (-2), .ref (x + 24)]) dX1_sift_8 fX1_37 (xup_eq) (Nat.le_of_ble_eq_true rfl) rfl rfl rfl ?_
  refine x_geq xup_up ?_
  refine x_aload_n dX1_sift_11 0 rfl ?_
  refine x_get dX1_sift_12 fX1_21 (xup_eq) rfl ?_
  refine x_iconst dX1_sift_15 ki_0 ?_
  refine x_pc (pc' := 16) rfl ?_
  refine x_cS (N := mJ7_fill_53178) (d' := 0) (mc := 0) (ms := 0) (cb := 0) (sb := 0) (As := [.ref (x + 24), .int (nI 0)]) (st := []) dX1_sift_16 mJ7_fill_53178_s lX1_40 rfl (by decide) (Nat.le_of_ble_eq_true rfl) (Arr_fill (by decide) (xup_of (by omega) (hB1.2.2.2.2))) rfl (st1 := []) rfl ?_
  refine x_iconst dX1_sift_19 ki_m1 ?_
  refine x_istore (ls' := [(5, .int (-1)), (0, .ref (x + 20)), (1, .ref (x + 15)), (2, .int (nI rs.length)), (3, .ref (x + 36)), (4, .int (nI n))]) dX1_sift_20 (by decide) rfl ?_
  refine x_leq (ls' := [(5, .int (nI 0 + (-1))), (0, .ref (x + 20)), (1, .ref (x + 15)), (2, .int (nI rs.length)), (3, .ref (x + 36)), (4, .int (nI n))]) rfl ?_
  exact Books_sift_loop hN hRs hO hp2 hkk hn (rs.length + 1) 0 (xup (xup G00 (x + 20) (eO 1 [.ref (x + 21), .ref (x + 22), .ref (x + 23), .int (nI bn), .int (nI 0), .int (-2), .ref (x + 24)])) (x + 24) (eI 0 35 (fun _ => nI 0))) _ hk rk rt (by omega) ((hB.obj bn 0 (-2)).alike (fun _ => 0)) (fun a h1 => by rw [xup_ne (by omega), xup_ne (by omega)]) ((hT.both (a := x + 20) _ (by omega)).both (a := x + 24) _ (by omega))
def MtAt (G : xHp) (b dd : Nat) (tr : Nat → Int32) (B : xB) : Prop := G b = some (eO 6 [.ref dd, .ref (b + 1), .ref (b + 2), .int B.1, .int B.2.1]) ∧ G (b + 1) = some (eI 0 4 tr) ∧ G (b + 2) = some (eI 0 4 B.2.2)
theorem MtAt.fr {G G' : xHp} {b dd : Nat} {tr : Nat → Int32} {B : xB} (h : MtAt G b dd tr B) (hf : ∀ a, b ≤ a → a < b + 3 → G' a = G a) : MtAt G' b dd tr B := ⟨(hf _ (by omega) (by omega)).trans h.1, (hf _ (by omega) (by omega)).trans h.2.1, (hf _ (by omega) (by omega)).trans h.2.2⟩
theorem Mt_init {K : xG} {b dd : Nat} {G : xHp} (hb : G b = some (eO 6 [.null, .null, .null, .int 0, .int 0])) : xCall K mX6_init 1 2 8 [.ref b, .ref dd] (b + 1) G (xEx (fun G' => MtAt G' b dd (fun _ => 0) (0, 0, fun _ => 0) ∧ Fr G G' b 3) (fun _ => none) (fun _ => b + 3) (fun G' => G')) := by
  refine x_entry (by decide) (ls := [(0, .ref b), (1, .ref dd)]) rfl (Nat.le_of_ble_eq_true rfl) ?_
  refine x_aload_n dX6_init_0 0 rfl ?_
  refine x_objInit dX6_init_1 lX6_3 xw_objI xw_objC (by decide) (Nat.le_of_ble_eq_true rfl) ?_
  refine x_aload_n dX6_init_4 0 rfl ?_
  refine x_iconst dX6_init_5 ki_4 ?_
  refine x_newa (cb := 1) (sb := 4) (t := 0) (N0 := 4) dX6_init_6 rfl xac_int (fun _ => rfl) (fun _ _ => rfl) rfl (by decide) (by decide) (by decide) ?_
  refine x_hh (h' := b + 2) rfl ?_
  refine x_putF (fs' := [.null, .ref (b + 1), .null, .int 0, .int 0]) dX6_init_8 fX6_9 rfl rfl (xup_of (by omega) (hb)) (Nat.le_of_ble_eq_true rfl) rfl rfl rfl ?_
  refine x_aload_n dX6_init_11 0 rfl ?_
  refine x_iconst dX6_init_12 ki_4 ?_
  refine x_newa (cb := 0) (sb := 0) (t := 0) (N0 := 4) dX6_init_13 rfl xac_int (fun _ => rfl) (fun _ _ => rfl) rfl (by decide) (by decide) (by decide) ?_
  refine x_hh (h' := b + 3) rfl ?_
  refine x_pc (pc' := 15) rfl ?_
  refine x_putF (fs' := [.null, .ref (b + 1), .ref (b + 2), .int 0, .int 0]) dX6_init_15 fX6_15 rfl rfl (xup_of (by omega) (xup_eq)) (Nat.le_of_ble_eq_true rfl) rfl rfl rfl ?_
  refine x_geq (xup_dig (by omega)) ?_
  refine x_aload_n dX6_init_18 0 rfl ?_
  refine x_aload_n dX6_init_19 1 rfl ?_
  refine x_putF (fs' := [.ref dd, .ref (b + 1), .ref (b + 2), .int 0, .int 0]) dX6_init_20 fX6_18 rfl rfl (xup_of (by omega) (xup_eq)) (Nat.le_of_ble_eq_true rfl) rfl rfl rfl ?_
  refine x_geq (xup_dig (by omega)) ?_
  exact x_vret dX6_init_23 rfl (xEx_i _ ⟨⟨xup_of (by omega) (xup_eq), xup_of (by omega) (xup_of (by omega) (xup_eq)), xup_eq⟩, (((Fr.rf).up1 (by omega) (by omega)).up1 (by omega) (by omega)).up1 (by omega) (by omega)⟩ rfl rfl rfl)
theorem Asks_init {K : xG} {b nw j : Nat} {G : xHp} (hb : G b = some (eO 0 [.null, .null, .null, .int 0, .int 0])) : xCall K mX0_init 3 13 116 [.ref b, .ref nw, .ref j] (b + 1) G (xEx (fun G' => G' b = some (eO 0 [.ref nw, .ref (b + 1), .ref (b + 11), .int 0, .int 0]) ∧ DayAt G' (b + 1) (fun _ _ => 0) (fun _ => 0) j none ∧ MtAt G' (b + 11) (b + 1) (fun _ => 0) (0, 0, fun _ => 0) ∧ Fr G G' b 14) (fun _ => none) (fun _ => b + 14) (fun G' => G')) := by
  refine x_entry (by decide) (ls := [(0, .ref b), (1, .ref nw), (2, .ref j)]) rfl (Nat.le_of_ble_eq_true rfl) ?_
  refine x_aload_n dX0_init_0 0 rfl ?_
  refine x_objInit dX0_init_1 lX0_3 xw_objI xw_objC (by decide) (Nat.le_of_ble_eq_true rfl) ?_
  refine x_aload_n dX0_init_4 0 rfl ?_
  refine x_aload_n dX0_init_5 1 rfl ?_
  refine x_putF (fs' := [.ref nw, .null, .null, .int 0, .int 0]) dX0_init_6 fX0_9 rfl rfl (hb) (Nat.le_of_ble_eq_true rfl) rfl rfl rfl ?_
  refine x_aload_n dX0_init_9 0 rfl ?_
  refine x_new (cb := 12) (sb := 112) (fs := [.null, .null, .null, .null]) dX0_init_10 xcl_X2 kX0_15 xin_X2 xii_X2 xdf_X2 ?_
  refine x_hh (h' := b + 2) rfl ?_
  refine x_dup dX0_init_13 rfl ?_
  refine x_aload_n dX0_init_14 2 rfl ?_
  refine x_pc (pc' := 15) rfl ?_
  refine x_cIe (N := mX2_init) (d' := 2) (mc := 9) (ms := 99) (cb := 3) (sb := 13) (As := [.ref j]) (st := [.ref (b + 1), .ref b]) dX0_init_15 mX2_init_i lX0_17 rfl (by decide) (Nat.le_of_ble_eq_true rfl) (Day_init (xup_eq)) rfl (sf := fun G1 => [.ref (b + 1), .ref b]) (fun _ => rfl) (fun G1 hq1 => ?_)
  obtain ⟨w1, w2⟩ := hq1
  have t1 : G1 b = some (eO 0 [.ref nw, .null, .null, .int 0, .int 0]) := (w2 b (by omega)).trans (xup_of (by omega) (xup_eq))
  refine x_hh (h' := b + 11) rfl ?_
  refine x_putF (fs' := [.ref nw, .ref (b + 1), .null, .int 0, .int 0]) dX0_init_18 fX0_20 rfl rfl (t1) (Nat.le_of_ble_eq_true rfl) rfl rfl rfl ?_
  refine x_aload_n dX0_init_21 0 rfl ?_
  refine x_new (cb := 2) (sb := 8) (fs := [.null, .null, .null, .int 0, .int 0]) dX0_init_22 xcl_X6 kX0_23 xin_X6 xii_X6 xdf_X6 ?_
  refine x_hh (h' := b + 12) rfl ?_
  refine x_dup dX0_init_25 rfl ?_
  refine x_aload_n dX0_init_26 0 rfl ?_
  refine x_get dX0_init_27 fX0_20 (xup_of (by omega) (xup_eq)) rfl ?_
  refine x_cIe (N := mX6_init) (d' := 1) (mc := 2) (ms := 8) (cb := 0) (sb := 0) (As := [.ref (b + 1)]) (st := [.ref (b + 11), .ref b]) dX0_init_30 mX6_init_i lX0_25 rfl (by decide) (Nat.le_of_ble_eq_true rfl) (Mt_init (xup_eq)) rfl (sf := fun G2 => [.ref (b + 11), .ref b]) (fun _ => rfl) (fun G2 hq2 => ?_)
  obtain ⟨w3, w4⟩ := hq2
  have u1 : G2 b = some (eO 0 [.ref nw, .ref (b + 1), .null, .int 0, .int 0]) := (w4 b (by omega)).trans (xup_of (by omega) (xup_eq))
  have u2 : DayAt G2 (b + 1) (fun _ _ => 0) (fun _ => 0) j none := w1.fr (fun c h1 h2 => by rw [w4 c (by omega), xup_ne (by omega), xup_ne (by omega)])
  refine x_hh (h' := b + 14) rfl ?_
  refine x_putF (fs' := [.ref nw, .ref (b + 1), .ref (b + 11), .int 0, .int 0]) dX0_init_33 fX0_28 rfl rfl (u1) (Nat.le_of_ble_eq_true rfl) rfl rfl rfl ?_
  exact x_vret dX0_init_36 rfl (xEx_i _ ⟨xup_eq, u2.off (by omega), w3.fr (fun c h1 h2 => xup_ne (by omega)), by intro q hq; rw [xup_ne (by omega), w4 q (by omega), xup_ne (by omega), xup_ne (by omega), w2 q (by omega), xup_ne (by omega), xup_ne (by omega)]⟩ rfl rfl rfl)
theorem Asks_findMatch {K : xG} {h x : Nat} {G0 G : xHp} {hl : xHl} {r : xRw} {ru : Option Nat} {hk : xHl} {rk : xRw} {rt : Option Nat} {ch mo : Int32} {tr : Nat → Int32} {B : xB} (hN : DayAt G0 (x + 26) hl r (x + 16) ru) (hO : HallOk hl) (hA : MtAt G0 (x + 47) (x + 37) tr B) (hT : TrW G0 G x hk rk rt ch mo) : xCall K mX0_findMatch 8 0 0 [.ref (x + 36)] h G (xEx (fun e : xRw × xHp => G (x + 36) = some (asksO x ch mo) ∧ e.2 (x + 36) = some (asksO x ch mo) ∧ DayAt e.2 (x + 37) hl e.1 (x + 16) ru ∧ (∃ wd sk, JudgeAt e.2 (x + 16) wd sk) ∧ MtAt e.2 (x + 47) (x + 37) (dfsM hl (hl 0 3) r 0 (nI 0) (nI 0) (tr, (-1, B.2.1, B.2.2))).1 (dfsM hl (hl 0 3) r 0 (nI 0) (nI 0) (tr, (-1, B.2.1, B.2.2))).2 ∧ ∀ a, ¬ (a = x + 17 ∨ a = x + 18 ∨ (x + 36 ≤ a ∧ a < x + 50)) → e.2 a = G0 a) (fun _ => some (.ref (x + 47))) (fun _ => h) (fun e => e.2)) := by
  refine x_entry (by decide) (ls := [(0, .ref (x + 36))]) rfl (Nat.le_of_ble_eq_true rfl) ?_
  have hNz := hT.now hN
  refine x_aload_n dX0_findMatch_0 0 rfl ?_
  refine x_get dX0_findMatch_1 fX0_20 (hT.1) rfl ?_
  refine x_aload_n dX0_findMatch_4 0 rfl ?_
  refine x_get dX0_findMatch_5 fX0_9 (hT.1) rfl ?_
  refine x_cVe (N := mX2_copy) (d' := 2) (mc := 0) (ms := 0) (cb := 0) (sb := 0) (As := [.ref (x + 26)]) (st := []) dX0_findMatch_8 mX2_copy_v lX0_32 rfl rfl (hT.2.1.1) rfl (by decide) (Nat.le_of_ble_eq_true rfl) (Tr_copy hN hT) rfl (sf := fun G1 => []) (fun _ => rfl) (fun G1 hT1 => ?_)
  have hM1 : MtW G1 G1 x hl r ru tr B := ⟨hT1.2.1, (hT1.2.2.2 _ (by omega)).trans hA.1, (hT1.2.2.2 _ (by omega)).trans hA.2.1, (hT1.2.2.2 _ (by omega)).trans hA.2.2, fun _ _ => rfl⟩
  refine x_aload_n dX0_findMatch_11 0 rfl ?_
  refine x_get dX0_findMatch_12 fX0_28 (hT1.1) rfl ?_
  refine x_cVe (N := mX6_search) (d' := 7) (mc := 0) (ms := 0) (cb := 0) (sb := 0) (As := []) (st := []) dX0_findMatch_15 mX6_search_v lX0_106 rfl rfl (hM1.2.1) rfl (by decide) (Nat.le_of_ble_eq_true rfl) (Mt_search hO hM1) rfl (sf := fun e2 => []) (fun _ => rfl) (fun e2 hq2 => ?_)
  obtain ⟨rk2, G2⟩ := e2
  obtain ⟨-, hM2⟩ := hq2
  simp only at hM2
  refine x_aload_n dX0_findMatch_18 0 rfl ?_
  refine x_pc (pc' := 19) rfl ?_
  refine x_get dX0_findMatch_19 fX0_28 ((hM2.2.2.2.2 _ (by omega)).trans hT1.1) rfl ?_
  exact x_aret dX0_findMatch_22 rfl (by simp) (by simp) (xEx_i (rk2, G2) ⟨hT.1, (hM2.2.2.2.2 _ (by omega)).trans hT1.1, hM2.1, hT1.2.2.1.elim (fun wd q => q.elim (fun sk q => ⟨wd, sk, q.fr (fun a h1 h2 => hM2.2.2.2.2 a (by omega))⟩)), ⟨hM2.2.1, hM2.2.2.1, hM2.2.2.2.1⟩, fun a ha => (hM2.2.2.2.2 a (by omega)).trans (hT1.2.2.2 a (by omega))⟩ rfl rfl rfl)
