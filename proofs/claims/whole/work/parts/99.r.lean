/-! ===== the two anew ===== -/
theorem core0_I : CoreI core0 := by
  have hO : HallOk core0.1.1 := ⟨by decide, by decide, by decide, fun t z => absurd z (Nat.not_lt_zero t), fun j z => absurd z (Nat.not_lt_zero j), fun j z => absurd z (Nat.not_lt_zero j), by decide, by decide⟩
  have hz : (0 : Int32) = nI 0 := by decide
  have hR : RowOk core0.1.1 core0.1.2 := ⟨fun t z => absurd z (Nat.not_lt_zero t), fun q z => absurd z (Nat.not_lt_zero q), fun q q' z => absurd z (Nat.not_lt_zero q), fun s z => absurd z (Nat.not_lt_zero s)⟩
  have hX : RowX core0.1.1 core0.1.2 := ⟨hR, ⟨0, by decide, hz⟩, fun s z => absurd z (Nat.not_lt_zero s), fun z => absurd z (by decide), fun t _ _ => rfl, fun q _ => ⟨0, by decide, hz⟩⟩
  refine ⟨⟨hO, hX, fun t z => absurd z (Nat.not_lt_zero t), fun s z => absurd z (Nat.not_lt_zero s), ⟨Nat.zero_le 10, fun k z => absurd z (Nat.not_lt_zero k)⟩, ⟨fun z => absurd z (by decide), fun z => absurd z (by decide)⟩, fun _ => ⟨rfl, rfl, rfl, rfl, rfl, rfl⟩, by decide, Nat.zero_le 20, fun i z => absurd z (Nat.not_lt_zero i)⟩, ⟨hX, fun z => absurd z (by decide), 0, ⟨hz, fun t z => absurd z (Nat.not_lt_zero t)⟩, by decide⟩, fun i z => absurd z (Nat.not_lt_zero i), fun j _ => rfl⟩
theorem start_D : RfD (fun _ => 0) 0 [] core0 (fun _ => none) hl0 r0 sc0 A0 Fz := by
  have hz : (0 : Int32) = nI 0 := by decide
  refine ⟨⟨⟨fun j _ => rfl, fun s z => absurd z (Nat.not_lt_zero s), fun z => absurd z (by decide), fun t z => absurd z (Nat.not_lt_zero t)⟩, fun j _ _ => rfl, rfl, fun k z => absurd z (Nat.not_lt_zero k), hz, fun i z => absurd z (Nat.not_lt_zero i)⟩, fun w z => absurd z (Nat.not_lt_zero w), fun k _ => Or.inl ⟨rfl, hz⟩, fun j _ => ⟨(show (0 : Int32) &&& nI 255 = nI 0 by decide), (show 0 < 256 by decide), fun _ => hz, fun z => absurd (show 128 ≤ 0 from z) (by decide)⟩, fun k j _ => ⟨0, by decide, hz⟩, hz, hz, rfl⟩
theorem start_LI {G1 G2 G3 : xHp} {x : Nat} {fs : List Value} (hM : ClsM G1 x (fun _ => 0) 0 0 (fun _ => none) (fun _ => none) core0 none) (hG : G2 = xup G1 (x + 51) (eO 12 fs)) (hW : MW G2 G3 (x + 51) hl0 r0 sc0 A0 Fz (fun _ => 0) (fun _ => 0)) : LI G3 (x + 51 + 46) x (x + 51) := by
  subst hG
  have hE : ClsE G1 (x + 51 + 46) x (x + 51 + 46) [] (fun _ => none) (fun _ => none) core0 (fun _ => none) none := ⟨by omega, Nat.le_refl _, by decide, fun k z => absurd z (Nat.not_lt_zero k), Or.inl ⟨rfl, rfl⟩, fun i _ => Or.inl ⟨rfl, rfl⟩, fun i j a b _ _ _ z => by cases z⟩
  have hC : ClsAt G1 (x + 51 + 46) x (x + 51 + 46) (fun _ => 0) 0 [] core0 (fun _ => none) := ⟨fun _ => none, fun _ => none, none, hM, hE⟩
  have hf : ∀ a, ¬ (x + 51 ≤ a ∧ a < x + 51 + 46) → G3 a = G1 a := fun a ha => (hW.2.2.1 a ha).trans (xup_ne (by omega))
  exact ⟨x + 51 + 46, fun _ => 0, 0, [], core0, fun _ => none, ⟨by omega, by omega⟩, hC.fr (fun a ha => hf a (by omega)) (fun a ha => hf a (by omega)), ⟨hl0, r0, sc0, A0, Fz, _, _, hW.own, start_D⟩, core0_I, fun i ck z => by cases z⟩
section LWS
variable {K : xG} {p : Program} {l : Launch} {e : Env} {s : State} {m : MethodId} {below : List Frame} {meth : Method} {c : Code} {b L x y : Nat} {xs : Nat → Int32}
theorem l_more {i : Nat} (hL : L ≤ 3072) (hi : i ≤ 4000) : nI L - nI 6 < nI i ↔ L < i + 6 := by
  rw [Int32.lt_iff_toInt_lt, Int32.toInt_sub, nI_toInt (show L < 2 ^ 31 by omega), nI_toInt (show i < 2 ^ 31 by omega), nI_toInt (show 6 < 2 ^ 31 by decide)]
  rw [Int.bmod_def]
  split <;> omega
set_option maxRecDepth 100000 in
set_option maxHeartbeats 4000000 in
theorem law_loop (hL : L ≤ 3072) (C : lC K p s m meth c b L xs) : ∀ (n i cells slots h : Nat) (G : xHp), L ≤ i + 6 * n → i ≤ 3072 → LI G h x y → cells + 17 * n ≤ 600000 → slots + 887 * n ≤ 7302250 → lV K p l e s m below meth c b cells slots h G 18 [(3, .int (nI i)), (2, .ref y), (1, .ref x), (0, .ref b)] [] := by
  intro n
  induction n with
  | zero =>
    intro i cells slots h G h1 h2 hI hc hs
    refine l_iload_n C dL_law_18 0 rfl ?_
    refine l_aload_n C dL_law_19 3 rfl ?_
    refine l_slen C dL_law_20 ?_
    refine l_bipush (v := nI 6) C dL_law_21 (by decide) ?_
    refine l_isub C dL_law_23 ?_
    refine l_icmp_gt (tgt := 1048) C dL_law_24 (by decide) (fun _ => ?_) (fun z => absurd ((l_more hL (by omega)).mpr (by omega)) z)
    refine l_iconst (v := 1) C dL_law_1048 (by decide) ?_
    exact l_ret C dL_law_1049 (by omega) (by omega)
  | succ n ih =>
    intro i cells slots h G h1 h2 hI hc hs
    refine l_iload_n C dL_law_18 0 rfl ?_
    refine l_aload_n C dL_law_19 3 rfl ?_
    refine l_slen C dL_law_20 ?_
    refine l_bipush (v := nI 6) C dL_law_21 (by decide) ?_
    refine l_isub C dL_law_23 ?_
    refine l_icmp_gt (tgt := 1048) C dL_law_24 (by decide) (fun _ => ?_) (fun z => ?_)
    · refine l_iconst (v := 1) C dL_law_1048 (by decide) ?_
      exact l_ret C dL_law_1049 (by omega) (by omega)
    · have hi : i + 6 ≤ L := by
        rcases Nat.lt_or_ge L (i + 6) with q | q
        · exact absurd ((l_more hL (by omega)).mpr q) z
        · exact q
      refine l_aload_n C dL_law_27 3 rfl ?_
      refine l_iload_n C dL_law_28 0 rfl ?_
      refine l_sld C (vp_in_nI (by omega) (by omega)) dL_law_29 ?_
      rw [nI_clamp (by omega)]
      refine l_bipush (v := nI 31) C dL_law_30 (by decide) ?_
      refine l_iand C dL_law_32 ?_
      have next : ∀ cells2 slots2 h2 G2, LI G2 h2 x y → cells2 ≤ cells + 17 → slots2 ≤ slots + 887 → lV K p l e s m below meth c b cells2 slots2 h2 G2 1042 [(3, .int (nI i)), (2, .ref y), (1, .ref x), (0, .ref b)] [] := fun cells2 slots2 h2 G2 hI2 q1 q2 => by
        refine l_iinc (w := nI (i + 6)) (ls' := [(3, .int (nI (i + 6))), (2, .ref y), (1, .ref x), (0, .ref b)]) C dL_law_1042 0 rfl (by rw [← nI_add]; rfl) (by decide) rfl ?_
        refine l_goto (tgt := 18) C dL_law_1045 (by decide) ?_
        exact ih (i + 6) cells2 slots2 h2 G2 (by omega) (by omega) hI2 (by omega) (by omega)
      obtain ⟨j, hj, ej⟩ := pk_andE (xs i) (m := nI 31) 5 (by decide)
      rw [ej]
      have hc17 : cells + 17 ≤ 600000 := by omega
      have hs887 : slots + 887 ≤ 7302250 := by omega
      obtain q | q | q | q | q | q | q | q | q | q | q | q | q | q | q | q | q | q | q | q | q | q | q | q | q | q | q | q | q | q | q | q : j = 0 ∨ j = 1 ∨ j = 2 ∨ j = 3 ∨ j = 4 ∨ j = 5 ∨ j = 6 ∨ j = 7 ∨ j = 8 ∨ j = 9 ∨ j = 10 ∨ j = 11 ∨ j = 12 ∨ j = 13 ∨ j = 14 ∨ j = 15 ∨ j = 16 ∨ j = 17 ∨ j = 18 ∨ j = 19 ∨ j = 20 ∨ j = 21 ∨ j = 22 ∨ j = 23 ∨ j = 24 ∨ j = 25 ∨ j = 26 ∨ j = 27 ∨ j = 28 ∨ j = 29 ∨ j = 30 ∨ j = 31 := by omega
      · subst q; exact law_c0 hL C hi hI hc17 hs887 next
      · subst q; exact law_c1 hL C hi hI hc17 hs887 next
      · subst q; exact law_c2 hL C hi hI hc17 hs887 next
      · subst q; exact law_c3 hL C hi hI hc17 hs887 next
      · subst q; exact law_c4 hL C hi hI hc17 hs887 next
      · subst q; exact law_c5 hL C hi hI hc17 hs887 next
      · subst q; exact law_c6 hL C hi hI hc17 hs887 next
      · subst q; exact law_c7 hL C hi hI hc17 hs887 next
      · subst q; exact law_c8 hL C hi hI hc17 hs887 next
      · subst q; exact law_c9 hL C hi hI hc17 hs887 next
      · subst q; exact law_c10 hL C hi hI hc17 hs887 next
      · subst q; exact law_c11 hL C hi hI hc17 hs887 next
      · subst q; exact law_c12 hL C hi hI hc17 hs887 next
      · subst q; exact law_c13 hL C hi hI hc17 hs887 next
      · subst q; exact law_c14 hL C hi hI hc17 hs887 next
      · subst q; exact law_c15 hL C hi hI hc17 hs887 next
      · subst q; exact law_c16 hL C hi hI hc17 hs887 next
      · subst q; exact law_c17 hL C hi hI hc17 hs887 next
      · subst q; exact law_c18 hL C hi hI hc17 hs887 next
      · subst q; exact law_c19 hL C hi hI hc17 hs887 next
      · subst q; exact law_c20 hL C hi hI hc17 hs887 next
      · subst q; exact law_c21 hL C hi hI hc17 hs887 next
      · subst q; exact law_c22 hL C hi hI hc17 hs887 next
      · subst q; exact law_c23 hL C hi hI hc17 hs887 next
      · subst q; exact law_c24 hL C hi hI hc17 hs887 next
      · subst q; exact law_c25 hL C hi hI hc17 hs887 next
      · subst q; exact law_c26 hL C hi hI hc17 hs887 next
      · subst q; exact law_c27 hL C hi hI hc17 hs887 next
      · subst q; exact law_c28 hL C hi hI hc17 hs887 next
      · subst q; exact law_c29 hL C hi hI hc17 hs887 next
      · subst q; exact law_c30 hL C hi hI hc17 hs887 next
      · subst q; exact law_c31 hL C hi hI hc17 hs887 next
set_option maxRecDepth 100000 in
set_option maxHeartbeats 4000000 in
theorem law_all (hL : L ≤ 3072) (C : lC K p s m meth c b L xs) : lV K p l e s m below meth c b 0 0 s.heap.size (fun _ => none) 0 [(0, .ref b)] [] := by
  generalize s.heap.size = x
  refine l_new (fs := [.null, .int 0, .null, .null, .null, .int 0, .null, .null, .null, .null, .null]) C dL_law_0 xcl_X11 kL_7 xin_X11 xii_X11 xdf_X11 (by decide) (by decide) ?_
  refine l_dup C dL_law_3 rfl ?_
  refine l_callI (N := mX11_init) (d' := 4) (mc := 50) (ms := 1950) (As := []) (st := [.ref x]) C dL_law_4 mX11_init_i lL_9 rfl (by decide) (Nat.le_of_ble_eq_true rfl) (by decide) (by decide) (Cls_init xup_eq) rfl (fun v h' G' hq => ?_)
  obtain ⟨G1, ⟨hM, hF⟩, e1, e2, e3⟩ := hq
  subst e1
  have e2 := e2.symm
  subst e2
  have e3 := e3.symm
  subst e3
  refine l_astore_n (ls' := [(1, .ref x), (0, .ref b)]) C dL_law_7 rfl ?_
  refine l_new (fs := [.int 0, .null, .null, .null, .null, .null, .null, .null, .null, .null, .null, .null, .null, .null, .null, .null, .null, .null, .null, .null, .null, .null, .null, .null, .null, .null, .null, .int 0, .int 0, .int 0, .int 0, .int 0, .int 0, .int 0, .int 0, .int 0, .int 0, .null, .null, .null, .null, .null, .null, .null, .null, .null, .null, .null, .null, .int 0, .int 0, .int 0, .int 0, .int 0, .null, .null, .null, .int 0, .int 0, .null, .null, .null, .null, .int 0, .int 0]) C dL_law_8 xcl_X12 kL_10 xin_X12 xii_X12 xdf_X12 (by decide) (by decide) ?_
  refine l_dup C dL_law_11 rfl ?_
  refine l_callI (N := mX12_init) (d' := 1) (mc := 45) (ms := 10377) (As := []) (st := [.ref (x + 51)]) C dL_law_12 mX12_init_i lL_12 rfl (by decide) (Nat.le_of_ble_eq_true rfl) (by decide) (by decide) (Md_init xup_eq) rfl (fun v h' G' hq => ?_)
  obtain ⟨G3, hW, e1, e2, e3⟩ := hq
  subst e1
  have e2 := e2.symm
  subst e2
  have e3 := e3.symm
  subst e3
  refine l_astore_n (ls' := [(2, .ref (x + 51)), (1, .ref x), (0, .ref b)]) C dL_law_15 rfl ?_
  refine l_iconst (v := nI 0) C dL_law_16 (by decide) ?_
  refine l_istore_n (ls' := [(3, .int (nI 0)), (2, .ref (x + 51)), (1, .ref x), (0, .ref b)]) C dL_law_17 rfl ?_
  exact law_loop hL C 512 0 _ _ _ _ (by omega) (by omega) (start_LI hM rfl hW) (by decide) (by decide)
end LWS
set_option maxRecDepth 100000 in
set_option maxHeartbeats 4000000 in
/-- from the entry, for every script, the law comes to its end with true -/
theorem whole_start {p : Program} {e : Env} {s : State} {m : MethodId} {below : List Frame} {meth : Method} {c : Code} (l : Launch) {b L : Nat} {xs : Nat → Int32} (hL : L ≤ 3072) (C0 : lw_At p s m meth c b L xs) : W p l e room_1 s m #[Value.ref b] below meth c s.heap [] 0 0 (lw_Z below #[Value.ref b] s) (entryFrame m ([Value.ref b] : List Value).toArray 4) := by
  obtain ⟨K, C⟩ := q_all C0
  have hl := lv_entry ([.ref b]) (n := 4) (Nat.le_of_ble_eq_true rfl)
  rw [lg_entry_eq]
  generalize (lg_sl ([.ref b]) ++ List.replicate (4 - (lg_sl ([.ref b])).length) Slot.unset).toArray = lc at hl ⊢
  have hl : lv_has lc 4 [(0, .ref b)] := hl
  have hk : K.1 = s.heap.size := C.2.2.2.2.2.2.2.2.2.2.2.2
  exact law_all hL C s.heap [] lc ⟨rfl, by omega, fun a e h => by cases h⟩ va_S.rf hl
