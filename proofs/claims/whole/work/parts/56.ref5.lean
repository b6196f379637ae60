theorem Md_save_loop {K : xG} {h y b pp n : Nat} {G : xHp} {F : Nat → Int32} {im f : Nat → Int32} (hy : G y = some (modO y (cF F 0 pp))) (h4 : G (y + 44) = some (eI 0 4500 im)) (hb : G b = some (eI 0 n f)) (hby : b ≠ y) (hb4 : b ≠ y + 44) (hpn : pp + n ≤ 4500) : ∀ (i k : Nat), k + i = n → xV K mX12_carryRow 0 0 0 h (xup (xup G y (modO y (cF F 0 (pp + k)))) (y + 44) (eI 0 4500 (layF im f pp k))) 2 [(2, .int (nI k)), (0, .ref y), (1, .ref b)] [] (xRet none h (xup (xup G y (modO y (cF F 0 (pp + n)))) (y + 44) (eI 0 4500 (layF im f pp n)))) := by
  intro i
  induction i with
  | zero =>
    intro k hi
    have hi0 : k = n := by omega
    subst hi0
    refine x_iload_n dX12_carryRow_2 0 rfl ?_
    refine x_aload_n dX12_carryRow_3 2 rfl ?_
    refine x_alen dX12_carryRow_4 (by decide) (xup_of (hb4) (xup_of (hby) (hb))) ?_
    refine x_icmpN_ge (tgt := 58) dX12_carryRow_5 (by decide) (by omega) (by omega) (fun c5 => ?_) (fun c5 => ?_)
    · exact x_vret dX12_carryRow_58 rfl (xRet_i)
    · exact absurd c5 (by omega)
  | succ i ih =>
    intro k hi
    refine x_iload_n dX12_carryRow_2 0 rfl ?_
    refine x_aload_n dX12_carryRow_3 2 rfl ?_
    refine x_alen dX12_carryRow_4 (by decide) (xup_of (hb4) (xup_of (hby) (hb))) ?_
    refine x_icmpN_ge (tgt := 58) dX12_carryRow_5 (by decide) (by omega) (by omega) (fun c5 => ?_) (fun c5 => ?_)
    · exact absurd c5 (by omega)
    · refine x_aload_n dX12_carryRow_8 1 rfl ?_
      refine x_get (v := .int (nI 0)) dX12_carryRow_9 fX12_506 (xup_of (by omega) (xup_eq)) rfl ?_
      refine x_ifN_eq (tgt := 30) dX12_carryRow_12 (by decide) (by omega) (fun c12 => ?_) (fun c12 => ?_)
      · refine x_aload_n dX12_carryRow_30 1 rfl ?_
        refine x_get (v := .ref (y + 44)) dX12_carryRow_31 fX12_145 (xup_of (by omega) (xup_eq)) rfl ?_
        refine x_pc (pc' := 34) rfl ?_
        refine x_aload_n dX12_carryRow_34 1 rfl ?_
        refine x_get (v := .int (nI (pp + k))) dX12_carryRow_35 fX12_509 (xup_of (by omega) (xup_eq)) rfl ?_
        refine x_aload_n dX12_carryRow_38 2 rfl ?_
        refine x_iload_n dX12_carryRow_39 0 rfl ?_
        refine x_ialdN dX12_carryRow_40 (xup_of (hb4) (xup_of (hby) (hb))) (by omega) (by omega) ?_
        refine x_iastN dX12_carryRow_41 (xup_eq) (by omega) (by decide) ?_
        refine x_geq xup_up ?_
        refine x_aload_n dX12_carryRow_42 1 rfl ?_
        refine x_dup dX12_carryRow_43 rfl ?_
        refine x_get (v := .int (nI (pp + k))) dX12_carryRow_44 fX12_509 (xup_of (by omega) (xup_eq)) rfl ?_
        refine x_iconst dX12_carryRow_47 ki_1 ?_
        refine x_pc (pc' := 48) rfl ?_
        refine x_iaddN dX12_carryRow_48 ?_
        refine x_put (fs' := [.int (F 0), .ref (y + 1), .ref (y + 2), .ref (y + 3), .ref (y + 4), .ref (y + 5), .ref (y + 6), .ref (y + 7), .ref (y + 8), .ref (y + 9), .ref (y + 10), .ref (y + 11), .ref (y + 12), .ref (y + 13), .ref (y + 14), .ref (y + 15), .ref (y + 16), .ref (y + 17), .ref (y + 18), .ref (y + 19), .ref (y + 20), .ref (y + 21), .ref (y + 22), .ref (y + 23), .ref (y + 24), .ref (y + 25), .ref (y + 26), .int (F 27), .int (F 28), .int (F 29), .int (F 30), .int (F 31), .int (F 32), .int (F 33), .int (F 34), .int (F 35), .int (F 36), .ref (y + 27), .ref (y + 28), .ref (y + 29), .ref (y + 30), .ref (y + 31), .ref (y + 32), .ref (y + 33), .ref (y + 34), .ref (y + 35), .ref (y + 36), .ref (y + 37), .ref (y + 38), .int (F 49), .int (F 50), .int (F 51), .int (F 52), .int (F 53), .ref (y + 39), .ref (y + 40), .ref (y + 41), .int (F 57), .int (F 58), .ref (y + 42), .ref (y + 43), .ref (y + 44), .ref (y + 45), .int (nI ((pp + k) + 1)), .int (nI 0)]) dX12_carryRow_49 fX12_509 (xup_of (by omega) (xup_eq)) (Nat.le_of_ble_eq_true rfl) rfl rfl rfl ?_
        refine x_geq (G' := xup _ y (modO y (cF F 0 ((pp + k) + 1)))) rfl ?_
        refine x_geq (xup_dig (by omega)) ?_
        refine x_iinc (v := nI (k + 1)) (ls' := [(2, .int (nI (k + 1))), (0, .ref y), (1, .ref b)]) dX12_carryRow_52 0 rfl (nIs _) (by decide) rfl ?_
        refine x_goto (tgt := 2) dX12_carryRow_55 (by decide) ?_
        rw [layF_s]
        exact ih (k + 1) (by omega)
      · exact absurd c12 (by decide)
theorem Md_save {K : xG} {h y b pp n : Nat} {G : xHp} {F : Nat → Int32} {im f : Nat → Int32} (hy : G y = some (modO y (cF F 0 pp))) (h4 : G (y + 44) = some (eI 0 4500 im)) (hb : G b = some (eI 0 n f)) (hby : b ≠ y) (hb4 : b ≠ y + 44) (hpn : pp + n ≤ 4500) : xCall K mX12_carryRow 0 0 0 [.ref y, .ref b] h G (xRet none h (xup (xup G y (modO y (cF F 0 (pp + n)))) (y + 44) (eI 0 4500 (layF im f pp n)))) := by
  refine x_entry (by decide) (ls := [(0, .ref y), (1, .ref b)]) rfl (Nat.le_of_ble_eq_true rfl) ?_
  refine x_iconst dX12_carryRow_0 ki_0 ?_
  refine x_istore_n (ls' := [(2, .int (nI 0)), (0, .ref y), (1, .ref b)]) dX12_carryRow_1 (by decide) rfl ?_
  refine x_geq (show G = xup (xup G y (modO y (cF F 0 (pp + 0)))) (y + 44) (eI 0 4500 (layF im f pp 0)) from by rw [layF_0, show pp + 0 = pp from rfl, xup_same hy, xup_same h4]) ?_
  exact Md_save_loop hy h4 hb hby hb4 hpn n 0 (by omega)
theorem Md_load_loop {K : xG} {h y b pp n : Nat} {G : xHp} {F : Nat → Int32} {im f : Nat → Int32} (hy : G y = some (modO y (cF F 1 pp))) (h4 : G (y + 44) = some (eI 0 4500 im)) (hb : G b = some (eI 0 n f)) (hby : b ≠ y) (hb4 : b ≠ y + 44) (hpn : pp + n ≤ 4500) : ∀ (i k : Nat), k + i = n → xV K mX12_carryRow 0 0 0 h (xup (xup G y (modO y (cF F 1 (pp + k)))) b (eI 0 n (ldF im f pp k))) 2 [(2, .int (nI k)), (0, .ref y), (1, .ref b)] [] (xRet none h (xup (xup G y (modO y (cF F 1 (pp + n)))) b (eI 0 n (ldF im f pp n)))) := by
  intro i
  induction i with
  | zero =>
    intro k hi
    have hi0 : k = n := by omega
    subst hi0
    refine x_iload_n dX12_carryRow_2 0 rfl ?_
    refine x_aload_n dX12_carryRow_3 2 rfl ?_
    refine x_alen dX12_carryRow_4 (by decide) (xup_eq) ?_
    refine x_icmpN_ge (tgt := 58) dX12_carryRow_5 (by decide) (by omega) (by omega) (fun c5 => ?_) (fun c5 => ?_)
    · exact x_vret dX12_carryRow_58 rfl (xRet_i)
    · exact absurd c5 (by omega)
  | succ i ih =>
    intro k hi
    refine x_iload_n dX12_carryRow_2 0 rfl ?_
    refine x_aload_n dX12_carryRow_3 2 rfl ?_
    refine x_alen dX12_carryRow_4 (by decide) (xup_eq) ?_
    refine x_icmpN_ge (tgt := 58) dX12_carryRow_5 (by decide) (by omega) (by omega) (fun c5 => ?_) (fun c5 => ?_)
    · exact absurd c5 (by omega)
    · refine x_aload_n dX12_carryRow_8 1 rfl ?_
      refine x_get (v := .int (nI 1)) dX12_carryRow_9 fX12_506 (xup_of (Ne.symm hby) (xup_eq)) rfl ?_
      refine x_ifN_eq (tgt := 30) dX12_carryRow_12 (by decide) (by omega) (fun c12 => ?_) (fun c12 => ?_)
      · exact absurd c12 (by decide)
      · refine x_aload_n dX12_carryRow_15 2 rfl ?_
        refine x_iload_n dX12_carryRow_16 0 rfl ?_
        refine x_pc (pc' := 17) rfl ?_
        refine x_aload_n dX12_carryRow_17 1 rfl ?_
        refine x_get (v := .ref (y + 44)) dX12_carryRow_18 fX12_145 (xup_of (Ne.symm hby) (xup_eq)) rfl ?_
        refine x_aload_n dX12_carryRow_21 1 rfl ?_
        refine x_get (v := .int (nI (pp + k))) dX12_carryRow_22 fX12_509 (xup_of (Ne.symm hby) (xup_eq)) rfl ?_
        refine x_ialdN dX12_carryRow_25 (xup_of (Ne.symm hb4) (xup_of (by omega) (h4))) (by omega) (by decide) ?_
        refine x_iastN dX12_carryRow_26 (xup_eq) (by omega) (by omega) ?_
        refine x_geq xup_up ?_
        refine x_goto (tgt := 42) dX12_carryRow_27 (by decide) ?_
        refine x_aload_n dX12_carryRow_42 1 rfl ?_
        refine x_dup dX12_carryRow_43 rfl ?_
        refine x_get (v := .int (nI (pp + k))) dX12_carryRow_44 fX12_509 (xup_of (Ne.symm hby) (xup_eq)) rfl ?_
        refine x_pc (pc' := 47) rfl ?_
        refine x_iconst dX12_carryRow_47 ki_1 ?_
        refine x_iaddN dX12_carryRow_48 ?_
        refine x_put (fs' := [.int (F 0), .ref (y + 1), .ref (y + 2), .ref (y + 3), .ref (y + 4), .ref (y + 5), .ref (y + 6), .ref (y + 7), .ref (y + 8), .ref (y + 9), .ref (y + 10), .ref (y + 11), .ref (y + 12), .ref (y + 13), .ref (y + 14), .ref (y + 15), .ref (y + 16), .ref (y + 17), .ref (y + 18), .ref (y + 19), .ref (y + 20), .ref (y + 21), .ref (y + 22), .ref (y + 23), .ref (y + 24), .ref (y + 25), .ref (y + 26), .int (F 27), .int (F 28), .int (F 29), .int (F 30), .int (F 31), .int (F 32), .int (F 33), .int (F 34), .int (F 35), .int (F 36), .ref (y + 27), .ref (y + 28), .ref (y + 29), .ref (y + 30), .ref (y + 31), .ref (y + 32), .ref (y + 33), .ref (y + 34), .ref (y + 35), .ref (y + 36), .ref (y + 37), .ref (y + 38), .int (F 49), .int (F 50), .int (F 51), .int (F 52), .int (F 53), .ref (y + 39), .ref (y + 40), .ref (y + 41), .int (F 57), .int (F 58), .ref (y + 42), .ref (y + 43), .ref (y + 44), .ref (y + 45), .int (nI ((pp + k) + 1)), .int (nI 1)]) dX12_carryRow_49 fX12_509 (xup_of (Ne.symm hby) (xup_eq)) (Nat.le_of_ble_eq_true rfl) rfl rfl rfl ?_
        refine x_geq (G' := xup _ y (modO y (cF F 1 ((pp + k) + 1)))) rfl ?_
        refine x_geq (xup_dig (Ne.symm hby)) ?_
        refine x_iinc (v := nI (k + 1)) (ls' := [(2, .int (nI (k + 1))), (0, .ref y), (1, .ref b)]) dX12_carryRow_52 0 rfl (nIs _) (by decide) rfl ?_
        refine x_goto (tgt := 2) dX12_carryRow_55 (by decide) ?_
        rw [show upd (ldF im f pp k) k (im (pp + k)) = ldF im f pp (k + 1) from ldF_s im f pp k]
        exact ih (k + 1) (by omega)
theorem Md_load {K : xG} {h y b pp n : Nat} {G : xHp} {F : Nat → Int32} {im f : Nat → Int32} (hy : G y = some (modO y (cF F 1 pp))) (h4 : G (y + 44) = some (eI 0 4500 im)) (hb : G b = some (eI 0 n f)) (hby : b ≠ y) (hb4 : b ≠ y + 44) (hpn : pp + n ≤ 4500) : xCall K mX12_carryRow 0 0 0 [.ref y, .ref b] h G (xRet none h (xup (xup G y (modO y (cF F 1 (pp + n)))) b (eI 0 n (ldF im f pp n)))) := by
  refine x_entry (by decide) (ls := [(0, .ref y), (1, .ref b)]) rfl (Nat.le_of_ble_eq_true rfl) ?_
  refine x_iconst dX12_carryRow_0 ki_0 ?_
  refine x_istore_n (ls' := [(2, .int (nI 0)), (0, .ref y), (1, .ref b)]) dX12_carryRow_1 (by decide) rfl ?_
  refine x_geq (show G = xup (xup G y (modO y (cF F 1 (pp + 0)))) b (eI 0 n (ldF im f pp 0)) from by rw [ldF_0, show pp + 0 = pp from rfl, xup_same hy, xup_same hb]) ?_
  exact Md_load_loop hy h4 hb hby hb4 hpn n 0 (by omega)
theorem Md_copies_loop {K : xG} {h a b n : Nat} {G : xHp} {f g : Nat → Int32} (ha : G a = some (eI 0 n f)) (hb : G b = some (eI 0 n g)) (hab : a ≠ b) (hn : n < 1000) : ∀ (i k : Nat), k + i = n → xV K mX12_copies 0 0 0 h (xup G b (eI 0 n (cpF f g k))) 2 [(2, .int (nI k)), (0, .ref a), (1, .ref b)] [] (xRet none h (xup G b (eI 0 n (cpF f g n)))) := by
  intro i
  induction i with
  | zero =>
    intro k hi
    have hi0 : k = n := by omega
    subst hi0
    refine x_iload_n dX12_copies_2 0 rfl ?_
    refine x_aload_n dX12_copies_3 1 rfl ?_
    refine x_alen dX12_copies_4 (by decide) (xup_of (hab) (ha)) ?_
    refine x_icmpN_ge (tgt := 20) dX12_copies_5 (by decide) (by omega) (by omega) (fun c5 => ?_) (fun c5 => ?_)
    · exact x_vret dX12_copies_20 rfl (xRet_i)
    · exact absurd c5 (by omega)
  | succ i ih =>
    intro k hi
    refine x_iload_n dX12_copies_2 0 rfl ?_
    refine x_aload_n dX12_copies_3 1 rfl ?_
    refine x_alen dX12_copies_4 (by decide) (xup_of (hab) (ha)) ?_
    refine x_icmpN_ge (tgt := 20) dX12_copies_5 (by decide) (by omega) (by omega) (fun c5 => ?_) (fun c5 => ?_)
    · exact absurd c5 (by omega)
    · refine x_aload_n dX12_copies_8 2 rfl ?_
      refine x_iload_n dX12_copies_9 0 rfl ?_
      refine x_aload_n dX12_copies_10 1 rfl ?_
      refine x_iload_n dX12_copies_11 0 rfl ?_
      refine x_ialdN dX12_copies_12 (xup_of (hab) (ha)) (by omega) (by omega) ?_
      refine x_pc (pc' := 13) rfl ?_
      refine x_iastN dX12_copies_13 (xup_eq) (by omega) (by omega) ?_
      refine x_geq xup_up ?_
      refine x_iinc (v := nI (k + 1)) (ls' := [(2, .int (nI (k + 1))), (0, .ref a), (1, .ref b)]) dX12_copies_14 0 rfl (nIs _) (by decide) rfl ?_
      refine x_goto (tgt := 2) dX12_copies_17 (by decide) ?_
      rw [cpF_s]
      exact ih (k + 1) (by omega)
theorem Md_copies {K : xG} {h a b n : Nat} {G : xHp} {f g : Nat → Int32} (ha : G a = some (eI 0 n f)) (hb : G b = some (eI 0 n g)) (hab : a ≠ b) (hn : n < 1000) : xCall K mX12_copies 0 0 0 [.ref a, .ref b] h G (xRet none h (xup G b (eI 0 n (cpF f g n)))) := by
  refine x_entry (by decide) (ls := [(0, .ref a), (1, .ref b)]) rfl (Nat.le_of_ble_eq_true rfl) ?_
  refine x_iconst dX12_copies_0 ki_0 ?_
  refine x_istore_n (ls' := [(2, .int (nI 0)), (0, .ref a), (1, .ref b)]) dX12_copies_1 (by decide) rfl ?_
  refine x_geq (show G = xup G b (eI 0 n (cpF f g 0)) from by rw [cpF_0, xup_same hb]) ?_
  exact Md_copies_loop ha hb hab hn n 0 (by omega)
