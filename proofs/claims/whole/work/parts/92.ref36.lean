def HQ (G0 G : xHp) (y : Nat) (hl : xHl) (r : xRw) (sc : Nat × Nat × Int32) (A0 : Nat → Nat → Int32) (F : Nat → Int32) (wa sa : Nat → Int64) (tn : Nat) (tp : Nat → Nat) (sl en de co op d : Nat) (s : Nat × Nat × xHl) : Prop := s.1 < 1000000 ∧ ∃ (A : Nat → Nat → Int32) (p : Nat), MW G0 G y hl r sc A (pF F tn p s.1 sl en de co op) wa sa ∧ KpN A0 A ∧ NB A ∧ p ≤ tn + 2 ∧ (s.1 = 0 → p ≤ tn ∧ skP tp tn p = skP tp tn s.2.1 ∧ NH A s.2.2 d)
def HE (G0 G : xHp) (y : Nat) (hl : xHl) (r : xRw) (sc : Nat × Nat × Int32) (A0 : Nat → Nat → Int32) (F : Nat → Int32) (wa sa : Nat → Int64) (tn : Nat) (sl en de co op d : Nat) (s : Nat × Nat × xHl) : Prop := s.1 < 1000000 ∧ ∃ (A : Nat → Nat → Int32) (p : Nat), MW G0 G y hl r sc A (pF F tn p s.1 sl en de co op) wa sa ∧ KpN A0 A ∧ NB A ∧ (s.1 = 0 → NH A s.2.2 d)
section CLL
variable {tp : Nat → Nat} {n p bf : Nat} {hl : xHl}
theorem cl_none (hw : wiO tp n 0 p (wl 0) = none) : clP tp n 0 p hl bf = (flP tp n 0 p 0, p, hl) := by unfold clP; rw [hw]
theorem cl_full {w : Nat} (hw : wiO tp n 0 p (wl 0) = some w) (ht : tooM hl w bf = true) : clP tp n 0 p hl bf = (flP tp n 0 p 4, p, hl) := by unfold clP; rw [hw]; exact if_pos ht
theorem cl_0 (hw : wiO tp n 0 p (wl 0) = some 0) (ht : tooM hl 0 bf = false) : clP tp n 0 p hl bf = rhaP tp n (atA tp n (skP tp n p)) hl := by unfold clP; rw [hw]; show (if tooM hl 0 bf = true then _ else _) = _; rw [if_neg (by rw [ht]; decide)]; rfl
theorem cl_1 (hw : wiO tp n 0 p (wl 0) = some 1) (ht : tooM hl 1 bf = false) : clP tp n 0 p hl bf = rsoP tp n (atA tp n (skP tp n p)) hl := by unfold clP; rw [hw]; show (if tooM hl 1 bf = true then _ else _) = _; rw [if_neg (by rw [ht]; decide)]; rfl
theorem cl_2 (hw : wiO tp n 0 p (wl 0) = some 2) (ht : tooM hl 2 bf = false) : clP tp n 0 p hl bf = (0, atA tp n (skP tp n p), set2 hl 0 3 (hl 0 3 + 1)) := by unfold clP; rw [hw]; show (if tooM hl 2 bf = true then _ else _) = _; rw [if_neg (by rw [ht]; decide)]; rfl
theorem cl_3 (hw : wiO tp n 0 p (wl 0) = some 3) (ht : tooM hl 3 bf = false) : clP tp n 0 p hl bf = rskP tp n (atA tp n (skP tp n p)) hl := by unfold clP; rw [hw]; show (if tooM hl 3 bf = true then _ else _) = _; rw [if_neg (by rw [ht]; decide)]; rfl
theorem cl_4 (hw : wiO tp n 0 p (wl 0) = some 4) (ht : tooM hl 4 bf = false) : clP tp n 0 p hl bf = rthP tp n (atA tp n (skP tp n p)) hl := by unfold clP; rw [hw]; show (if tooM hl 4 bf = true then _ else _) = _; rw [if_neg (by rw [ht]; decide)]; rfl
end CLL
theorem Md_part0 {K : xG} {h y : Nat} {G0 G : xHp} {hl : xHl} {r : xRw} {sc : Nat × Nat × Int32} {A : Nat → Nat → Int32} {F : Nat → Int32} {wa sa : Nat → Int64} {tn p sl en de co op : Nat} {q : Nat} {hk : xHl} {A0 : Nat → Nat → Int32} {tp : Nat → Nat} (hT : TpE (A 27) tp) (hlt : ∀ j, tp j < 256) (htn : tn ≤ 400) (hM : MW G0 G y hl r sc A (pF F tn p 0 sl en de co op) wa sa) (hK : KpN A0 A) (hB : NB A) {d : Nat} (hN : NH A hk d) (hd2 : d ≤ 2) (hC : CntOk hk) (hp2 : p ≤ tn) (hq : skP tp tn p = skP tp tn q) : xCall K mX12_hallPart 4 0 0 [.ref y, .int (nI 0)] h G (xEx (fun G' => HQ G0 G' y hl r sc A0 F wa sa tn tp sl en de co op 0 (rhaP tp tn q hk)) (fun _ => none) (fun _ => h) (fun G' => G')) := by
  refine x_entry (by decide) (ls := [(0, .ref y), (1, .int (nI 0))]) rfl (Nat.le_of_ble_eq_true rfl) ?_
  obtain ⟨n1, n2, n3, n4⟩ := id hN
  obtain ⟨o2, o3, o4⟩ := id hC
  refine x_iload_n dX12_hallPart_0 1 rfl ?_
  refine x_tableIn (tgt := 32) (off := 31) dX12_hallPart_1 (by decide) (by decide) rfl (by decide) ?_
  refine x_aload_n dX12_hallPart_32 0 rfl ?_
  refine x_get (v := .ref (y + 19)) dX12_hallPart_33 fX12_64 (hM.1) rfl ?_
  refine x_iconst dX12_hallPart_36 ki_0 ?_
  refine x_aload_n dX12_hallPart_37 0 rfl ?_
  refine x_iconst dX12_hallPart_38 ki_1 ?_
  refine x_sipush dX12_hallPart_39 ks_300 ?_
  refine x_cVe (N := mX12_amount) (d' := 3) (mc := 0) (ms := 0) (cb := 0) (sb := 0) (As := [.int (nI 1), .int (nI 300)]) (st := [.int (nI 0), .ref (y + 19)]) dX12_hallPart_42 mX12_amount_v lX12_288 rfl rfl (hM.1) rfl (by decide) (Nat.le_of_ble_eq_true rfl) (Md_amount (A := A) (q := q) (a := 1) (hi := nI 300) hT hlt htn hM (by omega) (by decide) (by decide) (fun _ => ⟨hp2, hq⟩)) rfl (sf := fun e1 => [.int (nI e1.1.1), .int (nI 0), .ref (y + 19)]) (fun _ => rfl) (fun e1 hq1x => ?_)
  obtain ⟨⟨v1, p1⟩, G1⟩ := e1
  refine x_topi (y := nI v1) rfl ?_
  have hA1 : MW G0 G1 y hl r sc A (pF F tn p1 (tnP tp tn 0 q (nI 1) (nI 300)).1 sl en de co op) wa sa := hq1x.1
  have hv1 : v1 < 100000 := hq1x.2.1
  have hp10 : p1 ≤ tn + 2 := hq1x.2.2.1
  have hf1 : (tnP tp tn 0 q (nI 1) (nI 300)).1 < 1000000 := hq1x.2.2.2.1
  have hz1 : (tnP tp tn 0 q (nI 1) (nI 300)).1 = 0 → p1 ≤ tn ∧ skP tp tn p1 = skP tp tn (tnP tp tn 0 q (nI 1) (nI 300)).2 ∧ v1 = nmN tp tn q := hq1x.2.2.2.2
  refine x_pc (pc' := 45) rfl ?_
  refine x_iastN (n := 5) (f := A 19) dX12_hallPart_45 (hA1.c19) (by decide) (by decide) ?_
  have hM101 := hA1.a19 (upd (A 19) 0 (nI v1))
  refine x_aload_n dX12_hallPart_46 0 rfl ?_
  refine x_get (v := .ref (y + 19)) dX12_hallPart_47 fX12_64 (hM101.1) rfl ?_
  refine x_iconst dX12_hallPart_50 ki_1 ?_
  refine x_aload_n dX12_hallPart_51 0 rfl ?_
  refine x_iconst dX12_hallPart_52 ki_1 ?_
  refine x_sipush dX12_hallPart_53 ks_300 ?_
  refine x_cVe (N := mX12_amount) (d' := 3) (mc := 0) (ms := 0) (cb := 0) (sb := 0) (As := [.int (nI 1), .int (nI 300)]) (st := [.int (nI 1), .ref (y + 19)]) dX12_hallPart_56 mX12_amount_v lX12_288 rfl rfl (hM101.1) rfl (by decide) (Nat.le_of_ble_eq_true rfl) (Md_amount (A := (setA A 19 (upd (A 19) 0 (nI v1)))) (q := (tnP tp tn 0 q (nI 1) (nI 300)).2) (a := 1) (hi := nI 300) hT hlt htn hM101 hp10 hf1 (by decide) (fun q0 => ⟨(hz1 q0).1, (hz1 q0).2.1⟩)) rfl (sf := fun e2 => [.int (nI e2.1.1), .int (nI 1), .ref (y + 19)]) (fun _ => rfl) (fun e2 hq2x => ?_)
  obtain ⟨⟨v2, p2⟩, G2⟩ := e2
  refine x_topi (y := nI v2) rfl ?_
  have hA2 : MW G0 G2 y hl r sc (setA A 19 (upd (A 19) 0 (nI v1))) (pF F tn p2 (tnP tp tn ((tnP tp tn 0 q (nI 1) (nI 300)).1) ((tnP tp tn 0 q (nI 1) (nI 300)).2) (nI 1) (nI 300)).1 sl en de co op) wa sa := hq2x.1
  have hv2 : v2 < 100000 := hq2x.2.1
  have hp20 : p2 ≤ tn + 2 := hq2x.2.2.1
  have hf2 : (tnP tp tn ((tnP tp tn 0 q (nI 1) (nI 300)).1) ((tnP tp tn 0 q (nI 1) (nI 300)).2) (nI 1) (nI 300)).1 < 1000000 := hq2x.2.2.2.1
  have hz2 : (tnP tp tn ((tnP tp tn 0 q (nI 1) (nI 300)).1) ((tnP tp tn 0 q (nI 1) (nI 300)).2) (nI 1) (nI 300)).1 = 0 → p2 ≤ tn ∧ skP tp tn p2 = skP tp tn (tnP tp tn ((tnP tp tn 0 q (nI 1) (nI 300)).1) ((tnP tp tn 0 q (nI 1) (nI 300)).2) (nI 1) (nI 300)).2 ∧ v2 = nmN tp tn ((tnP tp tn 0 q (nI 1) (nI 300)).2) := hq2x.2.2.2.2
  refine x_iastN (n := 5) (f := (upd (A 19) 0 (nI v1))) dX12_hallPart_59 (hA2.c19) (by decide) (by decide) ?_
  have hM102 := hA2.a19 (upd (upd (A 19) 0 (nI v1)) 1 (nI v2))
  refine x_goto (tgt := 133) dX12_hallPart_60 (by decide) ?_
  refine x_pc (pc' := 133) rfl ?_
  exact x_vret dX12_hallPart_133 rfl (xEx_i _ ⟨hf2, _, p2, hM102, (hK.st (by decide)).st (by decide), (hB.s9 (Or.inl rfl)).s9 (Or.inl rfl), hp20, fun q0 => by obtain ⟨a1, a2, a3⟩ := hz2 q0; obtain ⟨b1, b2, b3⟩ := hz1 (tn_f q0); exact ⟨a1, a2, by show NH _ (set2 (set2 hk 0 0 (nmN tp tn q)) 0 1 (nmN tp tn (tnP tp tn 0 q (nI 1) (nI 300)).2)) 0; rw [← a3, ← b3]; exact nh_hall hN hd2⟩⟩ rfl rfl rfl)
theorem Md_part1 {K : xG} {h y : Nat} {G0 G : xHp} {hl : xHl} {r : xRw} {sc : Nat × Nat × Int32} {A : Nat → Nat → Int32} {F : Nat → Int32} {wa sa : Nat → Int64} {tn p sl en de co op : Nat} {q : Nat} {hk : xHl} {A0 : Nat → Nat → Int32} {tp : Nat → Nat} (hT : TpE (A 27) tp) (hlt : ∀ j, tp j < 256) (htn : tn ≤ 400) (hM : MW G0 G y hl r sc A (pF F tn p 0 sl en de co op) wa sa) (hK : KpN A0 A) (hB : NB A) (hN : NH A hk 0) (hC : CntOk hk) (hp2 : p ≤ tn) (hq : skP tp tn p = skP tp tn q) (hc4 : hk 0 2 < 4) : xCall K mX12_hallPart 4 0 0 [.ref y, .int (nI 1)] h G (xEx (fun G' => HQ G0 G' y hl r sc A0 F wa sa tn tp sl en de co op 0 (rsoP tp tn q hk)) (fun _ => none) (fun _ => h) (fun G' => G')) := by
  refine x_entry (by decide) (ls := [(0, .ref y), (1, .int (nI 1))]) rfl (Nat.le_of_ble_eq_true rfl) ?_
  obtain ⟨n1, n2, n3, n4⟩ := id hN
  obtain ⟨o2, o3, o4⟩ := id hC
  refine x_iload_n dX12_hallPart_0 1 rfl ?_
  refine x_tableIn (tgt := 63) (off := 62) dX12_hallPart_1 (by decide) (by decide) rfl (by decide) ?_
  refine x_aload_n dX12_hallPart_63 0 rfl ?_
  refine x_get (v := .ref (y + 19)) dX12_hallPart_64 fX12_64 (hM.1) rfl ?_
  refine x_iconst dX12_hallPart_67 ki_2 ?_
  refine x_ialdN (n := 5) (f := A 19) dX12_hallPart_68 (hM.c19) (by decide) (by decide) ?_
  refine x_topi (y := nI (hk 0 2)) (n1 2 (by omega) (by decide)) ?_
  refine x_istore_n (ls' := [(2, .int (nI (hk 0 2))), (0, .ref y), (1, .int (nI 1))]) dX12_hallPart_69 (by decide) rfl ?_
  refine x_aload_n dX12_hallPart_70 1 rfl ?_
  refine x_get (v := .ref (y + 20)) dX12_hallPart_71 fX12_67 (hM.1) rfl ?_
  refine x_pc (pc' := 74) rfl ?_
  refine x_iload_n dX12_hallPart_74 0 rfl ?_
  refine x_aload_n dX12_hallPart_75 1 rfl ?_
  refine x_iconst dX12_hallPart_76 ki_0 ?_
  refine x_bipush dX12_hallPart_77 kb_9 ?_
  refine x_cVe (N := mX12_amount) (d' := 3) (mc := 0) (ms := 0) (cb := 0) (sb := 0) (As := [.int (nI 0), .int (nI 9)]) (st := [.int (nI (hk 0 2)), .ref (y + 20)]) dX12_hallPart_79 mX12_amount_v lX12_288 rfl rfl (hM.1) rfl (by decide) (Nat.le_of_ble_eq_true rfl) (Md_amount (A := A) (q := q) (a := 0) (hi := nI 9) hT hlt htn hM (by omega) (by decide) (by decide) (fun _ => ⟨hp2, hq⟩)) rfl (sf := fun e1 => [.int (nI e1.1.1), .int (nI (hk 0 2)), .ref (y + 20)]) (fun _ => rfl) (fun e1 hq1x => ?_)
  obtain ⟨⟨v1, p1⟩, G1⟩ := e1
  refine x_topi (y := nI v1) rfl ?_
  have hA1 : MW G0 G1 y hl r sc A (pF F tn p1 (tnP tp tn 0 q (nI 0) (nI 9)).1 sl en de co op) wa sa := hq1x.1
  have hv1 : v1 < 100000 := hq1x.2.1
  have hp10 : p1 ≤ tn + 2 := hq1x.2.2.1
  have hf1 : (tnP tp tn 0 q (nI 0) (nI 9)).1 < 1000000 := hq1x.2.2.2.1
  have hz1 : (tnP tp tn 0 q (nI 0) (nI 9)).1 = 0 → p1 ≤ tn ∧ skP tp tn p1 = skP tp tn (tnP tp tn 0 q (nI 0) (nI 9)).2 ∧ v1 = nmN tp tn q := hq1x.2.2.2.2
  refine x_iastN (n := 4) (f := A 20) dX12_hallPart_82 (hA1.c20) (by omega) (by decide) ?_
  have hM101 := hA1.a20 (upd (A 20) (hk 0 2) (nI v1))
  refine x_aload_n dX12_hallPart_83 1 rfl ?_
  refine x_get (v := .ref (y + 21)) dX12_hallPart_84 fX12_70 (hM101.1) rfl ?_
  refine x_iload_n dX12_hallPart_87 0 rfl ?_
  refine x_aload_n dX12_hallPart_88 1 rfl ?_
  refine x_pc (pc' := 89) rfl ?_
  refine x_iconst dX12_hallPart_89 ki_0 ?_
  refine x_bipush dX12_hallPart_90 kb_9 ?_
  refine x_cVe (N := mX12_amount) (d' := 3) (mc := 0) (ms := 0) (cb := 0) (sb := 0) (As := [.int (nI 0), .int (nI 9)]) (st := [.int (nI (hk 0 2)), .ref (y + 21)]) dX12_hallPart_92 mX12_amount_v lX12_288 rfl rfl (hM101.1) rfl (by decide) (Nat.le_of_ble_eq_true rfl) (Md_amount (A := (setA A 20 (upd (A 20) (hk 0 2) (nI v1)))) (q := (tnP tp tn 0 q (nI 0) (nI 9)).2) (a := 0) (hi := nI 9) hT hlt htn hM101 hp10 hf1 (by decide) (fun q0 => ⟨(hz1 q0).1, (hz1 q0).2.1⟩)) rfl (sf := fun e2 => [.int (nI e2.1.1), .int (nI (hk 0 2)), .ref (y + 21)]) (fun _ => rfl) (fun e2 hq2x => ?_)
  obtain ⟨⟨v2, p2⟩, G2⟩ := e2
  refine x_topi (y := nI v2) rfl ?_
  have hA2 : MW G0 G2 y hl r sc (setA A 20 (upd (A 20) (hk 0 2) (nI v1))) (pF F tn p2 (tnP tp tn ((tnP tp tn 0 q (nI 0) (nI 9)).1) ((tnP tp tn 0 q (nI 0) (nI 9)).2) (nI 0) (nI 9)).1 sl en de co op) wa sa := hq2x.1
  have hv2 : v2 < 100000 := hq2x.2.1
  have hp20 : p2 ≤ tn + 2 := hq2x.2.2.1
  have hf2 : (tnP tp tn ((tnP tp tn 0 q (nI 0) (nI 9)).1) ((tnP tp tn 0 q (nI 0) (nI 9)).2) (nI 0) (nI 9)).1 < 1000000 := hq2x.2.2.2.1
  have hz2 : (tnP tp tn ((tnP tp tn 0 q (nI 0) (nI 9)).1) ((tnP tp tn 0 q (nI 0) (nI 9)).2) (nI 0) (nI 9)).1 = 0 → p2 ≤ tn ∧ skP tp tn p2 = skP tp tn (tnP tp tn ((tnP tp tn 0 q (nI 0) (nI 9)).1) ((tnP tp tn 0 q (nI 0) (nI 9)).2) (nI 0) (nI 9)).2 ∧ v2 = nmN tp tn ((tnP tp tn 0 q (nI 0) (nI 9)).2) := hq2x.2.2.2.2
  refine x_iastN (n := 4) (f := A 21) dX12_hallPart_95 (hA2.c21) (by omega) (by decide) ?_
  have hM102 := hA2.a21 (upd (A 21) (hk 0 2) (nI v2))
  refine x_aload_n dX12_hallPart_96 1 rfl ?_
  refine x_get (v := .ref (y + 19)) dX12_hallPart_97 fX12_64 (hM102.1) rfl ?_
  refine x_iconst dX12_hallPart_100 ki_2 ?_
  refine x_dup2 dX12_hallPart_101 rfl rfl ?_
  refine x_ialdN (n := 5) (f := A 19) dX12_hallPart_102 (hM102.c19) (by decide) (by decide) ?_
  refine x_topi (y := nI (hk 0 2)) (n1 2 (by omega) (by decide)) ?_
  refine x_iconst dX12_hallPart_103 ki_1 ?_
  refine x_pc (pc' := 104) rfl ?_
  refine x_iaddN dX12_hallPart_104 ?_
  refine x_iastN (n := 5) (f := A 19) dX12_hallPart_105 (hM102.c19) (by decide) (by decide) ?_
  have hM103 := hM102.a19 (upd (A 19) 2 (nI ((hk 0 2) + 1)))
  refine x_goto (tgt := 133) dX12_hallPart_106 (by decide) ?_
  exact x_vret dX12_hallPart_133 rfl (xEx_i _ ⟨hf2, _, p2, hM103, ((hK.st (by decide)).st (by decide)).st (by decide), ((hB.st (by omega)).st (k := 21) (by omega)).s9 (Or.inl rfl), hp20, fun q0 => by obtain ⟨a1, a2, a3⟩ := hz2 q0; obtain ⟨b1, b2, b3⟩ := hz1 (tn_f q0); exact ⟨a1, a2, by show NH _ (set2 (set2 (set2 hk 1 (hk 0 2) (nmN tp tn q)) 2 (hk 0 2) (nmN tp tn (tnP tp tn 0 q (nI 0) (nI 9)).2)) 0 2 (hk 0 2 + 1)) 0; rw [← a3, ← b3]; exact nh_sort hN hc4⟩⟩ rfl rfl rfl)
theorem Md_part2 {K : xG} {h y : Nat} {G0 G : xHp} {hl : xHl} {r : xRw} {sc : Nat × Nat × Int32} {A : Nat → Nat → Int32} {F : Nat → Int32} {wa sa : Nat → Int64} {tn p sl en de co op : Nat} {q : Nat} {hk : xHl} {A0 : Nat → Nat → Int32} {tp : Nat → Nat} (hT : TpE (A 27) tp) (hlt : ∀ j, tp j < 256) (htn : tn ≤ 400) (hM : MW G0 G y hl r sc A (pF F tn p 0 sl en de co op) wa sa) (hK : KpN A0 A) (hB : NB A) (hN : NH A hk 0) (hC : CntOk hk) (hp2 : p ≤ tn) (hq : skP tp tn p = skP tp tn q) : xCall K mX12_hallPart 4 0 0 [.ref y, .int (nI 2)] h G (xEx (fun G' => HQ G0 G' y hl r sc A0 F wa sa tn tp sl en de co op 0 (0, q, set2 hk 0 3 (hk 0 3 + 1))) (fun _ => none) (fun _ => h) (fun G' => G')) := by
  refine x_entry (by decide) (ls := [(0, .ref y), (1, .int (nI 2))]) rfl (Nat.le_of_ble_eq_true rfl) ?_
  obtain ⟨n1, n2, n3, n4⟩ := id hN
  obtain ⟨o2, o3, o4⟩ := id hC
  refine x_iload_n dX12_hallPart_0 1 rfl ?_
  refine x_tableIn (tgt := 109) (off := 108) dX12_hallPart_1 (by decide) (by decide) rfl (by decide) ?_
  refine x_aload_n dX12_hallPart_109 0 rfl ?_
  refine x_get (v := .ref (y + 19)) dX12_hallPart_110 fX12_64 (hM.1) rfl ?_
  refine x_iconst dX12_hallPart_113 ki_3 ?_
  refine x_dup2 dX12_hallPart_114 rfl rfl ?_
  refine x_ialdN (n := 5) (f := A 19) dX12_hallPart_115 (hM.c19) (by decide) (by decide) ?_
  refine x_topi (y := nI (hk 0 3)) (n1 3 (by omega) (by decide)) ?_
  refine x_iconst dX12_hallPart_116 ki_1 ?_
  refine x_iaddN dX12_hallPart_117 ?_
  refine x_pc (pc' := 118) rfl ?_
  refine x_iastN (n := 5) (f := A 19) dX12_hallPart_118 (hM.c19) (by decide) (by decide) ?_
  have hM101 := hM.a19 (upd (A 19) 3 (nI ((hk 0 3) + 1)))
  refine x_goto (tgt := 133) dX12_hallPart_119 (by decide) ?_
  exact x_vret dX12_hallPart_133 rfl (xEx_i _ ⟨by show 0 < 1000000; decide, _, p, hM101, hK.st (by decide), hB.s9 (Or.inl rfl), by omega, fun q0 => ⟨hp2, hq, nh_mender hN⟩⟩ rfl rfl rfl)
theorem Md_thing1 {K : xG} {h y : Nat} {G0 G : xHp} {hl : xHl} {r : xRw} {sc : Nat × Nat × Int32} {A : Nat → Nat → Int32} {F : Nat → Int32} {wa sa : Nat → Int64} {tn p sl en de co op : Nat} {q : Nat} {hk : xHl} {A0 : Nat → Nat → Int32} {tp : Nat → Nat} (hT : TpE (A 27) tp) (hlt : ∀ j, tp j < 256) (htn : tn ≤ 400) (hM : MW G0 G y hl r sc A (pF F tn p 0 sl en de co op) wa sa) (hK : KpN A0 A) (hB : NB A) (hN : NH A hk 0) (hC : CntOk hk) (hp2 : p ≤ tn) (hq : skP tp tn p = skP tp tn q) (hc7 : hk 0 4 < 7) : xCall K mX12_readsThing 4 0 0 [.ref y] h G (xEx (fun G' => HQ G0 G' y hl r sc A0 F wa sa tn tp sl en de co op 0 (rthP tp tn q hk)) (fun _ => none) (fun _ => h) (fun G' => G')) := by
  refine x_entry (by decide) (ls := [(0, .ref y)]) rfl (Nat.le_of_ble_eq_true rfl) ?_
  obtain ⟨n1, n2, n3, n4⟩ := id hN
  obtain ⟨o2, o3, o4⟩ := id hC
  refine x_aload_n dX12_readsThing_0 0 rfl ?_
  refine x_get (v := .ref (y + 19)) dX12_readsThing_1 fX12_64 (hM.1) rfl ?_
  refine x_iconst dX12_readsThing_4 ki_4 ?_
  refine x_ialdN (n := 5) (f := A 19) dX12_readsThing_5 (hM.c19) (by decide) (by decide) ?_
  refine x_topi (y := nI (hk 0 4)) (n1 4 (by omega) (by decide)) ?_
  refine x_istore_n (ls' := [(1, .int (nI (hk 0 4))), (0, .ref y)]) dX12_readsThing_6 (by decide) rfl ?_
  refine x_aload_n dX12_readsThing_7 1 rfl ?_
  refine x_get (v := .ref (y + 23)) dX12_readsThing_8 fX12_76 (hM.1) rfl ?_
  refine x_iload_n dX12_readsThing_11 0 rfl ?_
  refine x_aload_n dX12_readsThing_12 1 rfl ?_
  refine x_pc (pc' := 13) rfl ?_
  refine x_iconst dX12_readsThing_13 ki_0 ?_
  refine x_aload_n dX12_readsThing_14 1 rfl ?_
  refine x_get (v := .ref (y + 19)) dX12_readsThing_15 fX12_64 (hM.1) rfl ?_
  refine x_iconst dX12_readsThing_18 ki_2 ?_
  refine x_ialdN (n := 5) (f := A 19) dX12_readsThing_19 (hM.c19) (by decide) (by decide) ?_
  refine x_topi (y := nI (hk 0 2)) (n1 2 (by omega) (by decide)) ?_
  refine x_iconst dX12_readsThing_20 ki_1 ?_
  refine x_isub dX12_readsThing_21 ?_
  refine x_cVe (N := mX12_amount) (d' := 3) (mc := 0) (ms := 0) (cb := 0) (sb := 0) (As := [.int (nI 0), .int ((nI (hk 0 2)) - (nI 1))]) (st := [.int (nI (hk 0 4)), .ref (y + 23)]) dX12_readsThing_22 mX12_amount_v lX12_288 rfl rfl (hM.1) rfl (by decide) (Nat.le_of_ble_eq_true rfl) (Md_amount (A := A) (q := q) (a := 0) (hi := (nI (hk 0 2)) - (nI 1)) hT hlt htn hM (by omega) (by decide) (by decide) (fun _ => ⟨hp2, hq⟩)) rfl (sf := fun e1 => [.int (nI e1.1.1), .int (nI (hk 0 4)), .ref (y + 23)]) (fun _ => rfl) (fun e1 hq1x => ?_)
  obtain ⟨⟨v1, p1⟩, G1⟩ := e1
  refine x_topi (y := nI v1) rfl ?_
  have hA1 : MW G0 G1 y hl r sc A (pF F tn p1 (tnP tp tn 0 q (nI 0) ((nI (hk 0 2)) - (nI 1))).1 sl en de co op) wa sa := hq1x.1
  have hv1 : v1 < 100000 := hq1x.2.1
  have hp10 : p1 ≤ tn + 2 := hq1x.2.2.1
  have hf1 : (tnP tp tn 0 q (nI 0) ((nI (hk 0 2)) - (nI 1))).1 < 1000000 := hq1x.2.2.2.1
  have hz1 : (tnP tp tn 0 q (nI 0) ((nI (hk 0 2)) - (nI 1))).1 = 0 → p1 ≤ tn ∧ skP tp tn p1 = skP tp tn (tnP tp tn 0 q (nI 0) ((nI (hk 0 2)) - (nI 1))).2 ∧ v1 = nmN tp tn q := hq1x.2.2.2.2
  refine x_iastN (n := 7) (f := A 23) dX12_readsThing_25 (hA1.c23) (by omega) (by decide) ?_
  have hM101 := hA1.a23 (upd (A 23) (hk 0 4) (nI v1))
  refine x_aload_n dX12_readsThing_26 1 rfl ?_
  refine x_pc (pc' := 27) rfl ?_
  refine x_get (v := .ref (y + 24)) dX12_readsThing_27 fX12_79 (hM101.1) rfl ?_
  refine x_iload_n dX12_readsThing_30 0 rfl ?_
  refine x_aload_n dX12_readsThing_31 1 rfl ?_
  refine x_iconst dX12_readsThing_32 ki_0 ?_
  refine x_sipush dX12_readsThing_33 ks_299 ?_
  refine x_cVe (N := mX12_amount) (d' := 3) (mc := 0) (ms := 0) (cb := 0) (sb := 0) (As := [.int (nI 0), .int (nI 299)]) (st := [.int (nI (hk 0 4)), .ref (y + 24)]) dX12_readsThing_36 mX12_amount_v lX12_288 rfl rfl (hM101.1) rfl (by decide) (Nat.le_of_ble_eq_true rfl) (Md_amount (A := (setA A 23 (upd (A 23) (hk 0 4) (nI v1)))) (q := (tnP tp tn 0 q (nI 0) ((nI (hk 0 2)) - (nI 1))).2) (a := 0) (hi := nI 299) hT hlt htn hM101 hp10 hf1 (by decide) (fun q0 => ⟨(hz1 q0).1, (hz1 q0).2.1⟩)) rfl (sf := fun e2 => [.int (nI e2.1.1), .int (nI (hk 0 4)), .ref (y + 24)]) (fun _ => rfl) (fun e2 hq2x => ?_)
  obtain ⟨⟨v2, p2⟩, G2⟩ := e2
  refine x_topi (y := nI v2) rfl ?_
  have hA2 : MW G0 G2 y hl r sc (setA A 23 (upd (A 23) (hk 0 4) (nI v1))) (pF F tn p2 (tnP tp tn ((tnP tp tn 0 q (nI 0) ((nI (hk 0 2)) - (nI 1))).1) ((tnP tp tn 0 q (nI 0) ((nI (hk 0 2)) - (nI 1))).2) (nI 0) (nI 299)).1 sl en de co op) wa sa := hq2x.1
  have hv2 : v2 < 100000 := hq2x.2.1
  have hp20 : p2 ≤ tn + 2 := hq2x.2.2.1
  have hf2 : (tnP tp tn ((tnP tp tn 0 q (nI 0) ((nI (hk 0 2)) - (nI 1))).1) ((tnP tp tn 0 q (nI 0) ((nI (hk 0 2)) - (nI 1))).2) (nI 0) (nI 299)).1 < 1000000 := hq2x.2.2.2.1
  have hz2 : (tnP tp tn ((tnP tp tn 0 q (nI 0) ((nI (hk 0 2)) - (nI 1))).1) ((tnP tp tn 0 q (nI 0) ((nI (hk 0 2)) - (nI 1))).2) (nI 0) (nI 299)).1 = 0 → p2 ≤ tn ∧ skP tp tn p2 = skP tp tn (tnP tp tn ((tnP tp tn 0 q (nI 0) ((nI (hk 0 2)) - (nI 1))).1) ((tnP tp tn 0 q (nI 0) ((nI (hk 0 2)) - (nI 1))).2) (nI 0) (nI 299)).2 ∧ v2 = nmN tp tn ((tnP tp tn 0 q (nI 0) ((nI (hk 0 2)) - (nI 1))).2) := hq2x.2.2.2.2
  refine x_iastN (n := 7) (f := A 24) dX12_readsThing_39 (hA2.c24) (by omega) (by decide) ?_
  have hM102 := hA2.a24 (upd (A 24) (hk 0 4) (nI v2))
  refine x_aload_n dX12_readsThing_40 1 rfl ?_
  refine x_get (v := .ref (y + 25)) dX12_readsThing_41 fX12_82 (hM102.1) rfl ?_
  refine x_iload_n dX12_readsThing_44 0 rfl ?_
  refine x_pc (pc' := 45) rfl ?_
  refine x_aload_n dX12_readsThing_45 1 rfl ?_
  refine x_iconst dX12_readsThing_46 ki_1 ?_
  refine x_bipush dX12_readsThing_47 kb_30 ?_
  refine x_cVe (N := mX12_amount) (d' := 3) (mc := 0) (ms := 0) (cb := 0) (sb := 0) (As := [.int (nI 1), .int (nI 30)]) (st := [.int (nI (hk 0 4)), .ref (y + 25)]) dX12_readsThing_49 mX12_amount_v lX12_288 rfl rfl (hM102.1) rfl (by decide) (Nat.le_of_ble_eq_true rfl) (Md_amount (A := (setA (setA A 23 (upd (A 23) (hk 0 4) (nI v1))) 24 (upd (A 24) (hk 0 4) (nI v2)))) (q := (tnP tp tn ((tnP tp tn 0 q (nI 0) ((nI (hk 0 2)) - (nI 1))).1) ((tnP tp tn 0 q (nI 0) ((nI (hk 0 2)) - (nI 1))).2) (nI 0) (nI 299)).2) (a := 1) (hi := nI 30) hT hlt htn hM102 hp20 hf2 (by decide) (fun q0 => ⟨(hz2 q0).1, (hz2 q0).2.1⟩)) rfl (sf := fun e3 => [.int (nI e3.1.1), .int (nI (hk 0 4)), .ref (y + 25)]) (fun _ => rfl) (fun e3 hq3x => ?_)
  obtain ⟨⟨v3, p3⟩, G3⟩ := e3
  refine x_topi (y := nI v3) rfl ?_
  have hA3 : MW G0 G3 y hl r sc (setA (setA A 23 (upd (A 23) (hk 0 4) (nI v1))) 24 (upd (A 24) (hk 0 4) (nI v2))) (pF F tn p3 (tnP tp tn ((tnP tp tn ((tnP tp tn 0 q (nI 0) ((nI (hk 0 2)) - (nI 1))).1) ((tnP tp tn 0 q (nI 0) ((nI (hk 0 2)) - (nI 1))).2) (nI 0) (nI 299)).1) ((tnP tp tn ((tnP tp tn 0 q (nI 0) ((nI (hk 0 2)) - (nI 1))).1) ((tnP tp tn 0 q (nI 0) ((nI (hk 0 2)) - (nI 1))).2) (nI 0) (nI 299)).2) (nI 1) (nI 30)).1 sl en de co op) wa sa := hq3x.1
  have hv3 : v3 < 100000 := hq3x.2.1
  have hp30 : p3 ≤ tn + 2 := hq3x.2.2.1
  have hf3 : (tnP tp tn ((tnP tp tn ((tnP tp tn 0 q (nI 0) ((nI (hk 0 2)) - (nI 1))).1) ((tnP tp tn 0 q (nI 0) ((nI (hk 0 2)) - (nI 1))).2) (nI 0) (nI 299)).1) ((tnP tp tn ((tnP tp tn 0 q (nI 0) ((nI (hk 0 2)) - (nI 1))).1) ((tnP tp tn 0 q (nI 0) ((nI (hk 0 2)) - (nI 1))).2) (nI 0) (nI 299)).2) (nI 1) (nI 30)).1 < 1000000 := hq3x.2.2.2.1
  have hz3 : (tnP tp tn ((tnP tp tn ((tnP tp tn 0 q (nI 0) ((nI (hk 0 2)) - (nI 1))).1) ((tnP tp tn 0 q (nI 0) ((nI (hk 0 2)) - (nI 1))).2) (nI 0) (nI 299)).1) ((tnP tp tn ((tnP tp tn 0 q (nI 0) ((nI (hk 0 2)) - (nI 1))).1) ((tnP tp tn 0 q (nI 0) ((nI (hk 0 2)) - (nI 1))).2) (nI 0) (nI 299)).2) (nI 1) (nI 30)).1 = 0 → p3 ≤ tn ∧ skP tp tn p3 = skP tp tn (tnP tp tn ((tnP tp tn ((tnP tp tn 0 q (nI 0) ((nI (hk 0 2)) - (nI 1))).1) ((tnP tp tn 0 q (nI 0) ((nI (hk 0 2)) - (nI 1))).2) (nI 0) (nI 299)).1) ((tnP tp tn ((tnP tp tn 0 q (nI 0) ((nI (hk 0 2)) - (nI 1))).1) ((tnP tp tn 0 q (nI 0) ((nI (hk 0 2)) - (nI 1))).2) (nI 0) (nI 299)).2) (nI 1) (nI 30)).2 ∧ v3 = nmN tp tn ((tnP tp tn ((tnP tp tn 0 q (nI 0) ((nI (hk 0 2)) - (nI 1))).1) ((tnP tp tn 0 q (nI 0) ((nI (hk 0 2)) - (nI 1))).2) (nI 0) (nI 299)).2) := hq3x.2.2.2.2
  refine x_iastN (n := 7) (f := A 25) dX12_readsThing_52 (hA3.c25) (by omega) (by decide) ?_
  have hM103 := hA3.a25 (upd (A 25) (hk 0 4) (nI v3))
  refine x_aload_n dX12_readsThing_53 1 rfl ?_
  refine x_get (v := .ref (y + 26)) dX12_readsThing_54 fX12_85 (hM103.1) rfl ?_
  refine x_iload_n dX12_readsThing_57 0 rfl ?_
  refine x_aload_n dX12_readsThing_58 1 rfl ?_
  refine x_iconst dX12_readsThing_59 ki_0 ?_
  refine x_pc (pc' := 60) rfl ?_
  refine x_iconst dX12_readsThing_60 ki_1 ?_
  refine x_cVe (N := mX12_amount) (d' := 3) (mc := 0) (ms := 0) (cb := 0) (sb := 0) (As := [.int (nI 0), .int (nI 1)]) (st := [.int (nI (hk 0 4)), .ref (y + 26)]) dX12_readsThing_61 mX12_amount_v lX12_288 rfl rfl (hM103.1) rfl (by decide) (Nat.le_of_ble_eq_true rfl) (Md_amount (A := (setA (setA (setA A 23 (upd (A 23) (hk 0 4) (nI v1))) 24 (upd (A 24) (hk 0 4) (nI v2))) 25 (upd (A 25) (hk 0 4) (nI v3)))) (q := (tnP tp tn ((tnP tp tn ((tnP tp tn 0 q (nI 0) ((nI (hk 0 2)) - (nI 1))).1) ((tnP tp tn 0 q (nI 0) ((nI (hk 0 2)) - (nI 1))).2) (nI 0) (nI 299)).1) ((tnP tp tn ((tnP tp tn 0 q (nI 0) ((nI (hk 0 2)) - (nI 1))).1) ((tnP tp tn 0 q (nI 0) ((nI (hk 0 2)) - (nI 1))).2) (nI 0) (nI 299)).2) (nI 1) (nI 30)).2) (a := 0) (hi := nI 1) hT hlt htn hM103 hp30 hf3 (by decide) (fun q0 => ⟨(hz3 q0).1, (hz3 q0).2.1⟩)) rfl (sf := fun e4 => [.int (nI e4.1.1), .int (nI (hk 0 4)), .ref (y + 26)]) (fun _ => rfl) (fun e4 hq4x => ?_)
  obtain ⟨⟨v4, p4⟩, G4⟩ := e4
  refine x_topi (y := nI v4) rfl ?_
  have hA4 : MW G0 G4 y hl r sc (setA (setA (setA A 23 (upd (A 23) (hk 0 4) (nI v1))) 24 (upd (A 24) (hk 0 4) (nI v2))) 25 (upd (A 25) (hk 0 4) (nI v3))) (pF F tn p4 (tnP tp tn ((tnP tp tn ((tnP tp tn ((tnP tp tn 0 q (nI 0) ((nI (hk 0 2)) - (nI 1))).1) ((tnP tp tn 0 q (nI 0) ((nI (hk 0 2)) - (nI 1))).2) (nI 0) (nI 299)).1) ((tnP tp tn ((tnP tp tn 0 q (nI 0) ((nI (hk 0 2)) - (nI 1))).1) ((tnP tp tn 0 q (nI 0) ((nI (hk 0 2)) - (nI 1))).2) (nI 0) (nI 299)).2) (nI 1) (nI 30)).1) ((tnP tp tn ((tnP tp tn ((tnP tp tn 0 q (nI 0) ((nI (hk 0 2)) - (nI 1))).1) ((tnP tp tn 0 q (nI 0) ((nI (hk 0 2)) - (nI 1))).2) (nI 0) (nI 299)).1) ((tnP tp tn ((tnP tp tn 0 q (nI 0) ((nI (hk 0 2)) - (nI 1))).1) ((tnP tp tn 0 q (nI 0) ((nI (hk 0 2)) - (nI 1))).2) (nI 0) (nI 299)).2) (nI 1) (nI 30)).2) (nI 0) (nI 1)).1 sl en de co op) wa sa := hq4x.1
  have hv4 : v4 < 100000 := hq4x.2.1
  have hp40 : p4 ≤ tn + 2 := hq4x.2.2.1
  have hf4 : (tnP tp tn ((tnP tp tn ((tnP tp tn ((tnP tp tn 0 q (nI 0) ((nI (hk 0 2)) - (nI 1))).1) ((tnP tp tn 0 q (nI 0) ((nI (hk 0 2)) - (nI 1))).2) (nI 0) (nI 299)).1) ((tnP tp tn ((tnP tp tn 0 q (nI 0) ((nI (hk 0 2)) - (nI 1))).1) ((tnP tp tn 0 q (nI 0) ((nI (hk 0 2)) - (nI 1))).2) (nI 0) (nI 299)).2) (nI 1) (nI 30)).1) ((tnP tp tn ((tnP tp tn ((tnP tp tn 0 q (nI 0) ((nI (hk 0 2)) - (nI 1))).1) ((tnP tp tn 0 q (nI 0) ((nI (hk 0 2)) - (nI 1))).2) (nI 0) (nI 299)).1) ((tnP tp tn ((tnP tp tn 0 q (nI 0) ((nI (hk 0 2)) - (nI 1))).1) ((tnP tp tn 0 q (nI 0) ((nI (hk 0 2)) - (nI 1))).2) (nI 0) (nI 299)).2) (nI 1) (nI 30)).2) (nI 0) (nI 1)).1 < 1000000 := hq4x.2.2.2.1
  have hz4 : (tnP tp tn ((tnP tp tn ((tnP tp tn ((tnP tp tn 0 q (nI 0) ((nI (hk 0 2)) - (nI 1))).1) ((tnP tp tn 0 q (nI 0) ((nI (hk 0 2)) - (nI 1))).2) (nI 0) (nI 299)).1) ((tnP tp tn ((tnP tp tn 0 q (nI 0) ((nI (hk 0 2)) - (nI 1))).1) ((tnP tp tn 0 q (nI 0) ((nI (hk 0 2)) - (nI 1))).2) (nI 0) (nI 299)).2) (nI 1) (nI 30)).1) ((tnP tp tn ((tnP tp tn ((tnP tp tn 0 q (nI 0) ((nI (hk 0 2)) - (nI 1))).1) ((tnP tp tn 0 q (nI 0) ((nI (hk 0 2)) - (nI 1))).2) (nI 0) (nI 299)).1) ((tnP tp tn ((tnP tp tn 0 q (nI 0) ((nI (hk 0 2)) - (nI 1))).1) ((tnP tp tn 0 q (nI 0) ((nI (hk 0 2)) - (nI 1))).2) (nI 0) (nI 299)).2) (nI 1) (nI 30)).2) (nI 0) (nI 1)).1 = 0 → p4 ≤ tn ∧ skP tp tn p4 = skP tp tn (tnP tp tn ((tnP tp tn ((tnP tp tn ((tnP tp tn 0 q (nI 0) ((nI (hk 0 2)) - (nI 1))).1) ((tnP tp tn 0 q (nI 0) ((nI (hk 0 2)) - (nI 1))).2) (nI 0) (nI 299)).1) ((tnP tp tn ((tnP tp tn 0 q (nI 0) ((nI (hk 0 2)) - (nI 1))).1) ((tnP tp tn 0 q (nI 0) ((nI (hk 0 2)) - (nI 1))).2) (nI 0) (nI 299)).2) (nI 1) (nI 30)).1) ((tnP tp tn ((tnP tp tn ((tnP tp tn 0 q (nI 0) ((nI (hk 0 2)) - (nI 1))).1) ((tnP tp tn 0 q (nI 0) ((nI (hk 0 2)) - (nI 1))).2) (nI 0) (nI 299)).1) ((tnP tp tn ((tnP tp tn 0 q (nI 0) ((nI (hk 0 2)) - (nI 1))).1) ((tnP tp tn 0 q (nI 0) ((nI (hk 0 2)) - (nI 1))).2) (nI 0) (nI 299)).2) (nI 1) (nI 30)).2) (nI 0) (nI 1)).2 ∧ v4 = nmN tp tn ((tnP tp tn ((tnP tp tn ((tnP tp tn 0 q (nI 0) ((nI (hk 0 2)) - (nI 1))).1) ((tnP tp tn 0 q (nI 0) ((nI (hk 0 2)) - (nI 1))).2) (nI 0) (nI 299)).1) ((tnP tp tn ((tnP tp tn 0 q (nI 0) ((nI (hk 0 2)) - (nI 1))).1) ((tnP tp tn 0 q (nI 0) ((nI (hk 0 2)) - (nI 1))).2) (nI 0) (nI 299)).2) (nI 1) (nI 30)).2) := hq4x.2.2.2.2
  refine x_iastN (n := 7) (f := A 26) dX12_readsThing_64 (hA4.c26) (by omega) (by decide) ?_
  have hM104 := hA4.a26 (upd (A 26) (hk 0 4) (nI v4))
  refine x_aload_n dX12_readsThing_65 1 rfl ?_
  refine x_get (v := .ref (y + 19)) dX12_readsThing_66 fX12_64 (hM104.1) rfl ?_
  refine x_iconst dX12_readsThing_69 ki_4 ?_
  refine x_dup2 dX12_readsThing_70 rfl rfl ?_
  refine x_ialdN (n := 5) (f := A 19) dX12_readsThing_71 (hM104.c19) (by decide) (by decide) ?_
  refine x_topi (y := nI (hk 0 4)) (n1 4 (by omega) (by decide)) ?_
  refine x_iconst dX12_readsThing_72 ki_1 ?_
  refine x_iaddN dX12_readsThing_73 ?_
  refine x_pc (pc' := 74) rfl ?_
  refine x_iastN (n := 5) (f := A 19) dX12_readsThing_74 (hM104.c19) (by decide) (by decide) ?_
  have hM105 := hM104.a19 (upd (A 19) 4 (nI ((hk 0 4) + 1)))
  exact x_vret dX12_readsThing_75 rfl (xEx_i _ ⟨hf4, _, p4, hM105, ((((hK.st (by decide)).st (by decide)).st (by decide)).st (by decide)).st (by decide), ((((hB.st (by omega)).st (k := 24) (by omega)).st (k := 25) (by omega)).st (k := 26) (by omega)).s9 (Or.inl rfl), hp40, fun q0 => by obtain ⟨a1, a2, a3⟩ := hz4 q0; have q3 := tn_f q0; have q2 := tn_f q3; obtain ⟨b1, b2, b3⟩ := hz3 q3; obtain ⟨c1, c2, c3⟩ := hz2 q2; obtain ⟨d1, d2, d3⟩ := hz1 (tn_f q2); exact ⟨a1, a2, by show NH _ (set2 (set2 (set2 (set2 (set2 hk 4 (hk 0 4) (nmN tp tn q)) 5 (hk 0 4) (nmN tp tn (tnP tp tn 0 q (nI 0) (nI (hk 0 2) - nI 1)).2)) 6 (hk 0 4) (nmN tp tn (tnP tp tn ((tnP tp tn 0 q (nI 0) (nI (hk 0 2) - nI 1)).1) ((tnP tp tn 0 q (nI 0) (nI (hk 0 2) - nI 1)).2) (nI 0) (nI 299)).2)) 7 (hk 0 4) (nmN tp tn (tnP tp tn ((tnP tp tn ((tnP tp tn 0 q (nI 0) (nI (hk 0 2) - nI 1)).1) ((tnP tp tn 0 q (nI 0) (nI (hk 0 2) - nI 1)).2) (nI 0) (nI 299)).1) ((tnP tp tn ((tnP tp tn 0 q (nI 0) (nI (hk 0 2) - nI 1)).1) ((tnP tp tn 0 q (nI 0) (nI (hk 0 2) - nI 1)).2) (nI 0) (nI 299)).2) (nI 1) (nI 30)).2)) 0 4 (hk 0 4 + 1)) 0; rw [← a3, ← b3, ← c3, ← d3]; exact nh_thing hN⟩⟩ rfl rfl rfl)
theorem Md_part3 {K : xG} {h y : Nat} {G0 G : xHp} {hl : xHl} {r : xRw} {sc : Nat × Nat × Int32} {A : Nat → Nat → Int32} {F : Nat → Int32} {wa sa : Nat → Int64} {tn p sl en de co op : Nat} {q : Nat} {hk : xHl} {A0 : Nat → Nat → Int32} {tp : Nat → Nat} (hT : TpE (A 27) tp) (hlt : ∀ j, tp j < 256) (htn : tn ≤ 400) (hM : MW G0 G y hl r sc A (pF F tn p 0 sl en de co op) wa sa) (hK : KpN A0 A) (hB : NB A) (hN : NH A hk 0) (hC : CntOk hk) (hp2 : p ≤ tn) (hq : skP tp tn p = skP tp tn q) (hc7 : hk 0 4 < 7) : xCall K mX12_hallPart 5 0 0 [.ref y, .int (nI 3)] h G (xEx (fun G' => HQ G0 G' y hl r sc A0 F wa sa tn tp sl en de co op 0 (rthP tp tn q hk)) (fun _ => none) (fun _ => h) (fun G' => G')) := by
  refine x_entry (by decide) (ls := [(0, .ref y), (1, .int (nI 3))]) rfl (Nat.le_of_ble_eq_true rfl) ?_
  obtain ⟨n1, n2, n3, n4⟩ := id hN
  obtain ⟨o2, o3, o4⟩ := id hC
  refine x_iload_n dX12_hallPart_0 1 rfl ?_
  refine x_tableIn (tgt := 122) (off := 121) dX12_hallPart_1 (by decide) (by decide) rfl (by decide) ?_
  refine x_aload_n dX12_hallPart_122 0 rfl ?_
  refine x_cVe (N := mX12_readsThing) (d' := 4) (mc := 0) (ms := 0) (cb := 0) (sb := 0) (As := []) (st := []) dX12_hallPart_123 mX12_readsThing_v lX12_292 rfl rfl (hM.1) rfl (by decide) (Nat.le_of_ble_eq_true rfl) (Md_thing1 hT hlt htn hM hK hB hN hC hp2 hq hc7) rfl (sf := fun G9 => []) (fun _ => rfl) (fun G9 hN9 => ?_)
  refine x_goto (tgt := 133) dX12_hallPart_126 (by decide) ?_
  exact x_vret dX12_hallPart_133 rfl (xEx_i G9 hN9 rfl rfl rfl)
theorem Md_skill1 {K : xG} {h y : Nat} {G0 G : xHp} {hl : xHl} {r : xRw} {sc : Nat × Nat × Int32} {A : Nat → Nat → Int32} {F : Nat → Int32} {wa sa : Nat → Int64} {tn p sl en de co op : Nat} {q : Nat} {hk : xHl} {A0 : Nat → Nat → Int32} {tp : Nat → Nat} (hT : TpE (A 27) tp) (hlt : ∀ j, tp j < 256) (htn : tn ≤ 400) (hM : MW G0 G y hl r sc A (pF F tn p 0 sl en de co op) wa sa) (hK : KpN A0 A) (hB : NB A) (hN : NH A hk 0) (hC : CntOk hk) (hp2 : p ≤ tn) (hq : skP tp tn p = skP tp tn q) : xCall K mX12_readsSkill 4 0 0 [.ref y] h G (xEx (fun G' => HQ G0 G' y hl r sc A0 F wa sa tn tp sl en de co op 0 (rskP tp tn q hk)) (fun _ => none) (fun _ => h) (fun G' => G')) := by
  refine x_entry (by decide) (ls := [(0, .ref y)]) rfl (Nat.le_of_ble_eq_true rfl) ?_
  obtain ⟨n1, n2, n3, n4⟩ := id hN
  obtain ⟨o2, o3, o4⟩ := id hC
  refine x_aload_n dX12_readsSkill_0 0 rfl ?_
  refine x_iconst dX12_readsSkill_1 ki_0 ?_
  refine x_aload_n dX12_readsSkill_2 0 rfl ?_
  refine x_get (v := .ref (y + 19)) dX12_readsSkill_3 fX12_64 (hM.1) rfl ?_
  refine x_iconst dX12_readsSkill_6 ki_3 ?_
  refine x_ialdN (n := 5) (f := A 19) dX12_readsSkill_7 (hM.c19) (by decide) (by decide) ?_
  refine x_topi (y := nI (hk 0 3)) (n1 3 (by omega) (by decide)) ?_
  refine x_iconst dX12_readsSkill_8 ki_1 ?_
  refine x_isub dX12_readsSkill_9 ?_
  refine x_cVe (N := mX12_amount) (d' := 3) (mc := 0) (ms := 0) (cb := 0) (sb := 0) (As := [.int (nI 0), .int ((nI (hk 0 3)) - (nI 1))]) (st := []) dX12_readsSkill_10 mX12_amount_v lX12_288 rfl rfl (hM.1) rfl (by decide) (Nat.le_of_ble_eq_true rfl) (Md_amount (A := A) (q := q) (a := 0) (hi := (nI (hk 0 3)) - (nI 1)) hT hlt htn hM (by omega) (by decide) (by decide) (fun _ => ⟨hp2, hq⟩)) rfl (sf := fun e1 => [.int (nI e1.1.1)]) (fun _ => rfl) (fun e1 hq1x => ?_)
  obtain ⟨⟨v1, p1⟩, G1⟩ := e1
  refine x_topi (y := nI v1) rfl ?_
  have hA1 : MW G0 G1 y hl r sc A (pF F tn p1 (tnP tp tn 0 q (nI 0) ((nI (hk 0 3)) - (nI 1))).1 sl en de co op) wa sa := hq1x.1
  have hv1 : v1 < 100000 := hq1x.2.1
  have hp10 : p1 ≤ tn + 2 := hq1x.2.2.1
  have hf1 : (tnP tp tn 0 q (nI 0) ((nI (hk 0 3)) - (nI 1))).1 < 1000000 := hq1x.2.2.2.1
  have hz1 : (tnP tp tn 0 q (nI 0) ((nI (hk 0 3)) - (nI 1))).1 = 0 → p1 ≤ tn ∧ skP tp tn p1 = skP tp tn (tnP tp tn 0 q (nI 0) ((nI (hk 0 3)) - (nI 1))).2 ∧ v1 = nmN tp tn q := hq1x.2.2.2.2
  refine x_pc (pc' := 13) rfl ?_
  refine x_istore_n (ls' := [(1, .int (nI v1)), (0, .ref y)]) dX12_readsSkill_13 (by decide) rfl ?_
  refine x_aload_n dX12_readsSkill_14 1 rfl ?_
  refine x_iconst dX12_readsSkill_15 ki_0 ?_
  refine x_aload_n dX12_readsSkill_16 1 rfl ?_
  refine x_get (v := .ref (y + 19)) dX12_readsSkill_17 fX12_64 (hA1.1) rfl ?_
  refine x_iconst dX12_readsSkill_20 ki_2 ?_
  refine x_ialdN (n := 5) (f := A 19) dX12_readsSkill_21 (hA1.c19) (by decide) (by decide) ?_
  refine x_topi (y := nI (hk 0 2)) (n1 2 (by omega) (by decide)) ?_
  refine x_iconst dX12_readsSkill_22 ki_1 ?_
  refine x_isub dX12_readsSkill_23 ?_
  refine x_cVe (N := mX12_amount) (d' := 3) (mc := 0) (ms := 0) (cb := 0) (sb := 0) (As := [.int (nI 0), .int ((nI (hk 0 2)) - (nI 1))]) (st := []) dX12_readsSkill_24 mX12_amount_v lX12_288 rfl rfl (hA1.1) rfl (by decide) (Nat.le_of_ble_eq_true rfl) (Md_amount (A := A) (q := (tnP tp tn 0 q (nI 0) ((nI (hk 0 3)) - (nI 1))).2) (a := 0) (hi := (nI (hk 0 2)) - (nI 1)) hT hlt htn hA1 hp10 hf1 (by decide) (fun q0 => ⟨(hz1 q0).1, (hz1 q0).2.1⟩)) rfl (sf := fun e2 => [.int (nI e2.1.1)]) (fun _ => rfl) (fun e2 hq2x => ?_)
  obtain ⟨⟨v2, p2⟩, G2⟩ := e2
  refine x_topi (y := nI v2) rfl ?_
  have hA2 : MW G0 G2 y hl r sc A (pF F tn p2 (tnP tp tn ((tnP tp tn 0 q (nI 0) ((nI (hk 0 3)) - (nI 1))).1) ((tnP tp tn 0 q (nI 0) ((nI (hk 0 3)) - (nI 1))).2) (nI 0) ((nI (hk 0 2)) - (nI 1))).1 sl en de co op) wa sa := hq2x.1
  have hv2 : v2 < 100000 := hq2x.2.1
  have hp20 : p2 ≤ tn + 2 := hq2x.2.2.1
  have hf2 : (tnP tp tn ((tnP tp tn 0 q (nI 0) ((nI (hk 0 3)) - (nI 1))).1) ((tnP tp tn 0 q (nI 0) ((nI (hk 0 3)) - (nI 1))).2) (nI 0) ((nI (hk 0 2)) - (nI 1))).1 < 1000000 := hq2x.2.2.2.1
  have hz2 : (tnP tp tn ((tnP tp tn 0 q (nI 0) ((nI (hk 0 3)) - (nI 1))).1) ((tnP tp tn 0 q (nI 0) ((nI (hk 0 3)) - (nI 1))).2) (nI 0) ((nI (hk 0 2)) - (nI 1))).1 = 0 → p2 ≤ tn ∧ skP tp tn p2 = skP tp tn (tnP tp tn ((tnP tp tn 0 q (nI 0) ((nI (hk 0 3)) - (nI 1))).1) ((tnP tp tn 0 q (nI 0) ((nI (hk 0 3)) - (nI 1))).2) (nI 0) ((nI (hk 0 2)) - (nI 1))).2 ∧ v2 = nmN tp tn ((tnP tp tn 0 q (nI 0) ((nI (hk 0 3)) - (nI 1))).2) := hq2x.2.2.2.2
  refine x_pc (pc' := 27) rfl ?_
  refine x_istore_n (ls' := [(2, .int (nI v2)), (1, .int (nI v1)), (0, .ref y)]) dX12_readsSkill_27 (by decide) rfl ?_
  refine x_aload_n dX12_readsSkill_28 2 rfl ?_
  refine x_iconst dX12_readsSkill_29 ki_1 ?_
  refine x_bipush dX12_readsSkill_30 kb_60 ?_
  refine x_cVe (N := mX12_amount) (d' := 3) (mc := 0) (ms := 0) (cb := 0) (sb := 0) (As := [.int (nI 1), .int (nI 60)]) (st := []) dX12_readsSkill_32 mX12_amount_v lX12_288 rfl rfl (hA2.1) rfl (by decide) (Nat.le_of_ble_eq_true rfl) (Md_amount (A := A) (q := (tnP tp tn ((tnP tp tn 0 q (nI 0) ((nI (hk 0 3)) - (nI 1))).1) ((tnP tp tn 0 q (nI 0) ((nI (hk 0 3)) - (nI 1))).2) (nI 0) ((nI (hk 0 2)) - (nI 1))).2) (a := 1) (hi := nI 60) hT hlt htn hA2 hp20 hf2 (by decide) (fun q0 => ⟨(hz2 q0).1, (hz2 q0).2.1⟩)) rfl (sf := fun e3 => [.int (nI e3.1.1)]) (fun _ => rfl) (fun e3 hq3x => ?_)
  obtain ⟨⟨v3, p3⟩, G3⟩ := e3
  refine x_topi (y := nI v3) rfl ?_
  have hA3 : MW G0 G3 y hl r sc A (pF F tn p3 (tnP tp tn ((tnP tp tn ((tnP tp tn 0 q (nI 0) ((nI (hk 0 3)) - (nI 1))).1) ((tnP tp tn 0 q (nI 0) ((nI (hk 0 3)) - (nI 1))).2) (nI 0) ((nI (hk 0 2)) - (nI 1))).1) ((tnP tp tn ((tnP tp tn 0 q (nI 0) ((nI (hk 0 3)) - (nI 1))).1) ((tnP tp tn 0 q (nI 0) ((nI (hk 0 3)) - (nI 1))).2) (nI 0) ((nI (hk 0 2)) - (nI 1))).2) (nI 1) (nI 60)).1 sl en de co op) wa sa := hq3x.1
  have hv3 : v3 < 100000 := hq3x.2.1
  have hp30 : p3 ≤ tn + 2 := hq3x.2.2.1
  have hf3 : (tnP tp tn ((tnP tp tn ((tnP tp tn 0 q (nI 0) ((nI (hk 0 3)) - (nI 1))).1) ((tnP tp tn 0 q (nI 0) ((nI (hk 0 3)) - (nI 1))).2) (nI 0) ((nI (hk 0 2)) - (nI 1))).1) ((tnP tp tn ((tnP tp tn 0 q (nI 0) ((nI (hk 0 3)) - (nI 1))).1) ((tnP tp tn 0 q (nI 0) ((nI (hk 0 3)) - (nI 1))).2) (nI 0) ((nI (hk 0 2)) - (nI 1))).2) (nI 1) (nI 60)).1 < 1000000 := hq3x.2.2.2.1
  have hz3 : (tnP tp tn ((tnP tp tn ((tnP tp tn 0 q (nI 0) ((nI (hk 0 3)) - (nI 1))).1) ((tnP tp tn 0 q (nI 0) ((nI (hk 0 3)) - (nI 1))).2) (nI 0) ((nI (hk 0 2)) - (nI 1))).1) ((tnP tp tn ((tnP tp tn 0 q (nI 0) ((nI (hk 0 3)) - (nI 1))).1) ((tnP tp tn 0 q (nI 0) ((nI (hk 0 3)) - (nI 1))).2) (nI 0) ((nI (hk 0 2)) - (nI 1))).2) (nI 1) (nI 60)).1 = 0 → p3 ≤ tn ∧ skP tp tn p3 = skP tp tn (tnP tp tn ((tnP tp tn ((tnP tp tn 0 q (nI 0) ((nI (hk 0 3)) - (nI 1))).1) ((tnP tp tn 0 q (nI 0) ((nI (hk 0 3)) - (nI 1))).2) (nI 0) ((nI (hk 0 2)) - (nI 1))).1) ((tnP tp tn ((tnP tp tn 0 q (nI 0) ((nI (hk 0 3)) - (nI 1))).1) ((tnP tp tn 0 q (nI 0) ((nI (hk 0 3)) - (nI 1))).2) (nI 0) ((nI (hk 0 2)) - (nI 1))).2) (nI 1) (nI 60)).2 ∧ v3 = nmN tp tn ((tnP tp tn ((tnP tp tn 0 q (nI 0) ((nI (hk 0 3)) - (nI 1))).1) ((tnP tp tn 0 q (nI 0) ((nI (hk 0 3)) - (nI 1))).2) (nI 0) ((nI (hk 0 2)) - (nI 1))).2) := hq3x.2.2.2.2
  refine x_istore_n (ls' := [(3, .int (nI v3)), (2, .int (nI v2)), (1, .int (nI v1)), (0, .ref y)]) dX12_readsSkill_35 (by decide) rfl ?_
  refine x_aload_n dX12_readsSkill_36 3 rfl ?_
  refine x_get (v := .int (nI ((tnP tp tn ((tnP tp tn ((tnP tp tn 0 q (nI 0) ((nI (hk 0 3)) - (nI 1))).1) ((tnP tp tn 0 q (nI 0) ((nI (hk 0 3)) - (nI 1))).2) (nI 0) ((nI (hk 0 2)) - (nI 1))).1) ((tnP tp tn ((tnP tp tn 0 q (nI 0) ((nI (hk 0 3)) - (nI 1))).1) ((tnP tp tn 0 q (nI 0) ((nI (hk 0 3)) - (nI 1))).2) (nI 0) ((nI (hk 0 2)) - (nI 1))).2) (nI 1) (nI 60)).1))) dX12_readsSkill_37 fX12_187 (hA3.1) rfl ?_
  refine x_ifN_ne (tgt := 54) dX12_readsSkill_40 (by decide) (by omega) (fun c40 => ?_) (fun c40 => ?_)
  · exact x_vret dX12_readsSkill_54 rfl (xEx_i _ ⟨hf3, _, p3, hA3, hK, hB, hp30, fun q0 => absurd q0 c40⟩ rfl rfl rfl)
  · obtain ⟨a1, a2, a3⟩ := hz3 c40
    have q2 := tn_f c40
    have q1 := tn_f q2
    obtain ⟨b1, b2, b3⟩ := hz2 q2
    obtain ⟨d1, d2, d3⟩ := hz1 q1
    have k1 := tn_ok (v := nmA tp tn (skP tp tn q)) (p' := (tnP tp tn 0 q (nI 0) (nI (hk 0 3) - nI 1)).2) (Prod.ext q1 rfl) (fun _ => rfl) (by decide)
    have k2 := tn_ok (v := nmA tp tn (skP tp tn (tnP tp tn 0 q (nI 0) (nI (hk 0 3) - nI 1)).2)) (p' := (tnP tp tn ((tnP tp tn 0 q (nI 0) (nI (hk 0 3) - nI 1)).1) ((tnP tp tn 0 q (nI 0) (nI (hk 0 3) - nI 1)).2) (nI 0) (nI (hk 0 2) - nI 1)).2) (Prod.ext q2 rfl) (fun _ => rfl) (by decide)
    have k3 := tn_ok (v := nmA tp tn (skP tp tn (tnP tp tn ((tnP tp tn 0 q (nI 0) (nI (hk 0 3) - nI 1)).1) ((tnP tp tn 0 q (nI 0) (nI (hk 0 3) - nI 1)).2) (nI 0) (nI (hk 0 2) - nI 1)).2)) (p' := (tnP tp tn ((tnP tp tn ((tnP tp tn 0 q (nI 0) (nI (hk 0 3) - nI 1)).1) ((tnP tp tn 0 q (nI 0) (nI (hk 0 3) - nI 1)).2) (nI 0) (nI (hk 0 2) - nI 1)).1) ((tnP tp tn ((tnP tp tn 0 q (nI 0) (nI (hk 0 3) - nI 1)).1) ((tnP tp tn 0 q (nI 0) (nI (hk 0 3) - nI 1)).2) (nI 0) (nI (hk 0 2) - nI 1)).2) (nI 1) (nI 60)).2) (Prod.ext c40 rfl) (fun _ => rfl) (by decide)
    have l1 := hi_m1 k1.2.2.2.2.1 (by omega) k1.2.2.2.1
    have l2 := hi_m1 k2.2.2.2.2.1 (by omega) k2.2.2.2.1
    have l3 := k3.2.2.1
    have l4 := hi_c k3.2.2.2.2.1 (by decide) k3.2.2.2.1
    rw [← d3] at l1
    rw [← b3] at l2
    rw [← a3] at l3 l4
    refine x_aload_n dX12_readsSkill_43 3 rfl ?_
    refine x_pc (pc' := 44) rfl ?_
    refine x_get (v := .ref (y + 22)) dX12_readsSkill_44 fX12_73 (hA3.1) rfl ?_
    refine x_iconst dX12_readsSkill_47 ki_4 ?_
    refine x_iload_n dX12_readsSkill_48 2 rfl ?_
    refine x_imulN dX12_readsSkill_49 ?_
    refine x_iload_n dX12_readsSkill_50 1 rfl ?_
    refine x_iaddN dX12_readsSkill_51 ?_
    refine x_iload_n dX12_readsSkill_52 0 rfl ?_
    refine x_iastN (n := 16) (f := A 22) dX12_readsSkill_53 (hA3.c22) (by omega) (by decide) ?_
    have hM101 := hA3.a22 (upd (A 22) ((4 * v1) + v2) (nI v3))
    exact x_vret dX12_readsSkill_54 rfl (xEx_i _ ⟨hf3, _, p3, hM101, hK.st (by decide), hB.s9 (Or.inr rfl), hp30, fun q0 => ⟨a1, a2, by show NH _ (set2 hk 3 (nmN tp tn q * 4 + nmN tp tn (tnP tp tn 0 q (nI 0) (nI (hk 0 3) - nI 1)).2) (nmN tp tn (tnP tp tn ((tnP tp tn 0 q (nI 0) (nI (hk 0 3) - nI 1)).1) ((tnP tp tn 0 q (nI 0) (nI (hk 0 3) - nI 1)).2) (nI 0) (nI (hk 0 2) - nI 1)).2)) 0; rw [← a3, ← b3, ← d3]; exact nh_skill hN (by omega) (by omega)⟩⟩ rfl rfl rfl)
theorem Md_part4 {K : xG} {h y : Nat} {G0 G : xHp} {hl : xHl} {r : xRw} {sc : Nat × Nat × Int32} {A : Nat → Nat → Int32} {F : Nat → Int32} {wa sa : Nat → Int64} {tn p sl en de co op : Nat} {q : Nat} {hk : xHl} {A0 : Nat → Nat → Int32} {tp : Nat → Nat} (hT : TpE (A 27) tp) (hlt : ∀ j, tp j < 256) (htn : tn ≤ 400) (hM : MW G0 G y hl r sc A (pF F tn p 0 sl en de co op) wa sa) (hK : KpN A0 A) (hB : NB A) (hN : NH A hk 0) (hC : CntOk hk) (hp2 : p ≤ tn) (hq : skP tp tn p = skP tp tn q) : xCall K mX12_hallPart 5 0 0 [.ref y, .int (nI 4)] h G (xEx (fun G' => HQ G0 G' y hl r sc A0 F wa sa tn tp sl en de co op 0 (rskP tp tn q hk)) (fun _ => none) (fun _ => h) (fun G' => G')) := by
  refine x_entry (by decide) (ls := [(0, .ref y), (1, .int (nI 4))]) rfl (Nat.le_of_ble_eq_true rfl) ?_
  obtain ⟨n1, n2, n3, n4⟩ := id hN
  obtain ⟨o2, o3, o4⟩ := id hC
  refine x_iload_n dX12_hallPart_0 1 rfl ?_
  refine x_tableOut (tgt := 129) dX12_hallPart_1 (by decide) (by decide) ?_
  refine x_aload_n dX12_hallPart_129 0 rfl ?_
  refine x_cVe (N := mX12_readsSkill) (d' := 4) (mc := 0) (ms := 0) (cb := 0) (sb := 0) (As := []) (st := []) dX12_hallPart_130 mX12_readsSkill_v lX12_295 rfl rfl (hM.1) rfl (by decide) (Nat.le_of_ble_eq_true rfl) (Md_skill1 hT hlt htn hM hK hB hN hC hp2 hq) rfl (sf := fun G9 => []) (fun _ => rfl) (fun G9 hN9 => ?_)
  exact x_vret dX12_hallPart_133 rfl (xEx_i G9 hN9 rfl rfl rfl)
theorem Md_hallClause {K : xG} {h y : Nat} {G0 G : xHp} {hl : xHl} {r : xRw} {sc : Nat × Nat × Int32} {F : Nat → Int32} {wa sa : Nat → Int64} {tn sl en de co op : Nat} {q bf : Nat} {hk : xHl} {A0 : Nat → Nat → Int32} {tp : Nat → Nat} (hT0 : TpE (A0 27) tp) (hlt : ∀ j, tp j < 256) (htn : tn ≤ 400) (hR : HQ G0 G y hl r sc A0 F wa sa tn tp sl en de co op (if bf = 0 then 2 else 0) (0, q, hk)) (hC : CntOk hk) (hbf : bf ≤ 40) : xCall K mX12_hallClause 6 0 0 [.ref y, .int (nI bf)] h G (xEx (fun G' => HQ G0 G' y hl r sc A0 F wa sa tn tp sl en de co op 0 (clP tp tn 0 q hk bf)) (fun _ => none) (fun _ => h) (fun G' => G')) := by
  refine x_entry (by decide) (ls := [(0, .ref y), (1, .int (nI bf))]) rfl (Nat.le_of_ble_eq_true rfl) ?_
  obtain ⟨-, A, p, hM, hK, hB, hp9, hz⟩ := hR
  obtain ⟨hp2, hq, hN⟩ := hz rfl
  have hT : TpE (A 27) tp := by rw [hK 27 (by decide)]; exact hT0
  change NH A hk (if bf = 0 then 2 else 0) at hN
  change skP tp tn p = skP tp tn q at hq
  change MW G0 G y hl r sc A (pF F tn p 0 sl en de co op) wa sa at hM
  have hd2 : (if bf = 0 then 2 else 0) ≤ 2 := by split <;> decide
  obtain ⟨o2, o3, o4⟩ := id hC
  have hsk := sk_le (tp := tp) hp2
  refine x_aload_n dX12_hallClause_0 0 rfl ?_
  refine x_cVe (N := mX12_blanks) (d' := 1) (mc := 0) (ms := 0) (cb := 0) (sb := 0) (As := []) (st := []) dX12_hallClause_1 mX12_blanks_v lX12_210 rfl rfl (hM.1) rfl (by decide) (Nat.le_of_ble_eq_true rfl) (Md_blanksA hT hlt htn hM (by omega)) rfl (sf := fun G1 => []) (fun _ => rfl) (fun G1 hN1 => ?_)
  have hwi := wiO_h (tp := tp) (n := tn) hq
  refine x_aload_n dX12_hallClause_4 0 rfl ?_
  refine x_get (v := .int (nI (skP tp tn p))) dX12_hallClause_5 fX12_190 (hN1.1) rfl ?_
  refine x_istore_n (ls' := [(2, .int (nI (skP tp tn p))), (0, .ref y), (1, .int (nI bf))]) dX12_hallClause_8 (by decide) rfl ?_
  refine x_iconst dX12_hallClause_9 ki_0 ?_
  refine x_istore_n (ls' := [(3, .int (nI 0)), (2, .int (nI (skP tp tn p))), (0, .ref y), (1, .int (nI bf))]) dX12_hallClause_10 (by decide) rfl ?_
  refine x_iload_n dX12_hallClause_11 0 rfl ?_
  refine x_iconst dX12_hallClause_12 ki_5 ?_
  refine x_pc (pc' := 13) rfl ?_
  refine x_icmpN_ge (tgt := 33) dX12_hallClause_13 (by decide) (by omega) (by omega) (fun c13 => ?_) (fun c13 => ?_)
  · exact absurd c13 (by decide)
  · refine x_aload_n dX12_hallClause_16 2 rfl ?_
    refine x_iload_n dX12_hallClause_17 0 rfl ?_
    refine x_cS (N := mX12_hallWord) (d' := 0) (mc := 0) (ms := 0) (cb := 0) (sb := 0) (As := [.int (nI 0)]) (st := [.ref y]) dX12_hallClause_18 mX12_hallWord_s lX12_298 rfl (by decide) (Nat.le_of_ble_eq_true rfl) (Md_hallWord (k := 0) (by decide)) rfl (st1 := [.ref (K.2.2.2.2.1 22), .ref y]) rfl ?_
    refine x_cV (N := mX12_stood) (d' := 4) (mc := 0) (ms := 0) (cb := 0) (sb := 0) (As := [.ref (K.2.2.2.2.1 22)]) (st := []) dX12_hallClause_21 mX12_stood_v lX12_213 rfl rfl (hN1.1) rfl (by decide) (Nat.le_of_ble_eq_true rfl) (Md_stood (i := 22) hT hlt htn hN1 (by decide) (by omega)) rfl (st1 := [.int (bI (stB tp tn (skP tp tn p) 22))]) rfl ?_
    refine x_ifB_ne (tgt := 33) dX12_hallClause_24 (by decide) (fun c24 => ?_) (fun c24 => ?_)
    · have t0 := c24
      refine x_iload_n dX12_hallClause_33 0 rfl ?_
      refine x_iconst dX12_hallClause_34 ki_5 ?_
      refine x_icmpN_ne (tgt := 45) dX12_hallClause_35 (by decide) (by omega) (by omega) (fun c35 => ?_) (fun c35 => ?_)
      · rw [if_pos t0] at hwi
        refine x_aload_n dX12_hallClause_45 2 rfl ?_
        refine x_pc (pc' := 46) rfl ?_
        refine x_iload_n dX12_hallClause_46 0 rfl ?_
        refine x_iload_n dX12_hallClause_47 3 rfl ?_
        refine x_cV (N := mX12_isFull) (d' := 0) (mc := 0) (ms := 0) (cb := 0) (sb := 0) (As := [.int (nI 0), .int (nI bf)]) (st := []) dX12_hallClause_48 mX12_isFull_v lX12_301 rfl rfl (hN1.1) rfl (by decide) (Nat.le_of_ble_eq_true rfl) (Md_isFull0 hN1 hN hd2 hC hbf) rfl (st1 := [.int (bI (tooM hk 0 bf))]) rfl ?_
        refine x_ifB_eq (tgt := 61) dX12_hallClause_51 (by decide) (fun c51 => ?_) (fun c51 => ?_)
        · refine x_aload_n dX12_hallClause_61 2 rfl ?_
          refine x_dup dX12_hallClause_62 rfl ?_
          refine x_get (v := .int (nI (skP tp tn p))) dX12_hallClause_63 fX12_190 (hN1.1) rfl ?_
          refine x_iload_n dX12_hallClause_66 0 rfl ?_
          refine x_cS (N := mX12_hallWord) (d' := 0) (mc := 0) (ms := 0) (cb := 0) (sb := 0) (As := [.int (nI 0)]) (st := [.int (nI (skP tp tn p)), .ref y]) dX12_hallClause_67 mX12_hallWord_s lX12_298 rfl (by decide) (Nat.le_of_ble_eq_true rfl) (Md_hallWord (k := 0) (by decide)) rfl (st1 := [.ref (K.2.2.2.2.1 22), .int (nI (skP tp tn p)), .ref y]) rfl ?_
          refine x_cVS (i := 22) (N := mJ0_length_8abf5) (d' := 1) (mc := 0) (ms := 0) (cb := 0) (sb := 0) (As := []) (st := [.int (nI (skP tp tn p)), .ref y]) (by decide) dX12_hallClause_70 mJ0_length_8abf5_v rfl lX12_201 rfl (by decide) (Nat.le_of_ble_eq_true rfl) (Str_length (by decide)) rfl (st1 := [.int (nI ((xs_byt 22).length)), .int (nI (skP tp tn p)), .ref y]) rfl ?_
          refine x_pc (pc' := 73) rfl ?_
          refine x_iaddN dX12_hallClause_73 ?_
          refine x_put (fs' := [.int (F 0), .ref (y + 1), .ref (y + 2), .ref (y + 3), .ref (y + 4), .ref (y + 5), .ref (y + 6), .ref (y + 7), .ref (y + 8), .ref (y + 9), .ref (y + 10), .ref (y + 11), .ref (y + 12), .ref (y + 13), .ref (y + 14), .ref (y + 15), .ref (y + 16), .ref (y + 17), .ref (y + 18), .ref (y + 19), .ref (y + 20), .ref (y + 21), .ref (y + 22), .ref (y + 23), .ref (y + 24), .ref (y + 25), .ref (y + 26), .int (nI tn), .int (nI ((skP tp tn p) + ((xs_byt 22).length))), .int (nI 0), .int (nI sl), .int (F 31), .int (nI en), .int (nI de), .int (nI co), .int (nI op), .int (F 36), .ref (y + 27), .ref (y + 28), .ref (y + 29), .ref (y + 30), .ref (y + 31), .ref (y + 32), .ref (y + 33), .ref (y + 34), .ref (y + 35), .ref (y + 36), .ref (y + 37), .ref (y + 38), .int (F 49), .int (F 50), .int (F 51), .int (F 52), .int (F 53), .ref (y + 39), .ref (y + 40), .ref (y + 41), .int (F 57), .int (F 58), .ref (y + 42), .ref (y + 43), .ref (y + 44), .ref (y + 45), .int (F 63), .int (F 64)]) dX12_hallClause_74 fX12_190 (hN1.1) (Nat.le_of_ble_eq_true rfl) rfl rfl rfl ?_
          refine x_geq (G' := xup _ y (modO y (pF F tn ((skP tp tn p) + ((xs_byt 22).length)) 0 sl en de co op))) rfl ?_
          have hM101 := hN1.fld (pF F tn ((skP tp tn p) + ((xs_byt 22).length)) 0 sl en de co op)
          refine x_aload_n dX12_hallClause_77 2 rfl ?_
          refine x_iload_n dX12_hallClause_78 0 rfl ?_
          obtain ⟨x1, x2⟩ := st_at (tp := tp) (n := tn) (p := (skP tp tn p)) (by decide) xl_22 t0
          have hfu := of_decide_eq_false c51
          have hq9 : skP tp tn ((skP tp tn p) + (xs_byt 22).length) = skP tp tn (atA tp tn (skP tp tn q)) := by rw [← hq, x2, xl_22]
          refine x_cVe (N := mX12_hallPart) (d' := 4) (mc := 0) (ms := 0) (cb := 0) (sb := 0) (As := [.int (nI 0)]) (st := []) dX12_hallClause_79 mX12_hallPart_v lX12_305 rfl rfl (hM101.1) rfl (by decide) (Nat.le_of_ble_eq_true rfl) (Md_part0 hT hlt htn hM101 hK hB hN hd2 hC (by rw [xl_22]; exact x1) hq9) rfl (sf := fun G9 => []) (fun _ => rfl) (fun G9 hN9 => ?_)
          exact x_vret dX12_hallClause_82 rfl (xEx_i G9 (by rw [cl_0 hwi c51]; exact hN9) rfl rfl rfl)
        · refine x_aload_n dX12_hallClause_54 2 rfl ?_
          refine x_iconst dX12_hallClause_55 ki_4 ?_
          refine x_iload_n dX12_hallClause_56 1 rfl ?_
          refine x_cVe (N := mX12_fails) (d' := 0) (mc := 0) (ms := 0) (cb := 0) (sb := 0) (As := [.int (nI 4), .int (nI (skP tp tn p))]) (st := []) dX12_hallClause_57 mX12_fails_v lX12_226 rfl rfl (hN1.1) rfl (by decide) (Nat.le_of_ble_eq_true rfl) (Md_fails (f := 0) hN1 (by decide)) rfl (sf := fun G2 => []) (fun _ => rfl) (fun G2 hN2 => ?_)
          exact x_vret dX12_hallClause_60 rfl (xEx_i G2 (by rw [cl_full hwi c51]; exact ⟨by show flP tp tn 0 q 4 < _; rw [flP_z]; omega, A, (skP tp tn p), by show MW _ _ _ _ _ _ _ (pF F tn _ (flP tp tn 0 q 4) sl en de co op) _ _; rw [flP_z, ← hq]; rw [flt_z] at hN2; exact hN2, hK, hB, by omega, fun q0 => absurd q0 flP_ne⟩) rfl rfl rfl)
      · exact absurd c35 (by decide)
    · have s0 := c24
      refine x_iinc (v := nI (0 + 1)) (ls' := [(3, .int (nI (0 + 1))), (2, .int (nI (skP tp tn p))), (0, .ref y), (1, .int (nI bf))]) dX12_hallClause_27 0 rfl (nIs _) (by decide) rfl ?_
      refine x_goto (tgt := 11) dX12_hallClause_30 (by decide) ?_
      refine x_leq (ls' := [(3, .int (nI 1)), (2, .int (nI (skP tp tn p))), (0, .ref y), (1, .int (nI bf))]) rfl ?_
      refine x_iload_n dX12_hallClause_11 0 rfl ?_
      refine x_iconst dX12_hallClause_12 ki_5 ?_
      refine x_pc (pc' := 13) rfl ?_
      refine x_icmpN_ge (tgt := 33) dX12_hallClause_13 (by decide) (by omega) (by omega) (fun c13 => ?_) (fun c13 => ?_)
      · exact absurd c13 (by decide)
      · refine x_aload_n dX12_hallClause_16 2 rfl ?_
        refine x_iload_n dX12_hallClause_17 0 rfl ?_
        refine x_cS (N := mX12_hallWord) (d' := 0) (mc := 0) (ms := 0) (cb := 0) (sb := 0) (As := [.int (nI 1)]) (st := [.ref y]) dX12_hallClause_18 mX12_hallWord_s lX12_298 rfl (by decide) (Nat.le_of_ble_eq_true rfl) (Md_hallWord (k := 1) (by decide)) rfl (st1 := [.ref (K.2.2.2.2.1 9), .ref y]) rfl ?_
        refine x_cV (N := mX12_stood) (d' := 4) (mc := 0) (ms := 0) (cb := 0) (sb := 0) (As := [.ref (K.2.2.2.2.1 9)]) (st := []) dX12_hallClause_21 mX12_stood_v lX12_213 rfl rfl (hN1.1) rfl (by decide) (Nat.le_of_ble_eq_true rfl) (Md_stood (i := 9) hT hlt htn hN1 (by decide) (by omega)) rfl (st1 := [.int (bI (stB tp tn (skP tp tn p) 9))]) rfl ?_
        refine x_ifB_ne (tgt := 33) dX12_hallClause_24 (by decide) (fun c24 => ?_) (fun c24 => ?_)
        · have t1 := c24
          refine x_iload_n dX12_hallClause_33 0 rfl ?_
          refine x_iconst dX12_hallClause_34 ki_5 ?_
          refine x_icmpN_ne (tgt := 45) dX12_hallClause_35 (by decide) (by omega) (by omega) (fun c35 => ?_) (fun c35 => ?_)
          · rw [if_neg (by rw [s0]; decide), if_pos t1] at hwi
            refine x_aload_n dX12_hallClause_45 2 rfl ?_
            refine x_pc (pc' := 46) rfl ?_
            refine x_iload_n dX12_hallClause_46 0 rfl ?_
            refine x_iload_n dX12_hallClause_47 3 rfl ?_
            refine x_cV (N := mX12_isFull) (d' := 0) (mc := 0) (ms := 0) (cb := 0) (sb := 0) (As := [.int (nI 1), .int (nI bf)]) (st := []) dX12_hallClause_48 mX12_isFull_v lX12_301 rfl rfl (hN1.1) rfl (by decide) (Nat.le_of_ble_eq_true rfl) (Md_isFull1 hN1 hN hd2 hC hbf) rfl (st1 := [.int (bI (tooM hk 1 bf))]) rfl ?_
            refine x_ifB_eq (tgt := 61) dX12_hallClause_51 (by decide) (fun c51 => ?_) (fun c51 => ?_)
            · refine x_aload_n dX12_hallClause_61 2 rfl ?_
              refine x_dup dX12_hallClause_62 rfl ?_
              refine x_get (v := .int (nI (skP tp tn p))) dX12_hallClause_63 fX12_190 (hN1.1) rfl ?_
              refine x_iload_n dX12_hallClause_66 0 rfl ?_
              refine x_cS (N := mX12_hallWord) (d' := 0) (mc := 0) (ms := 0) (cb := 0) (sb := 0) (As := [.int (nI 1)]) (st := [.int (nI (skP tp tn p)), .ref y]) dX12_hallClause_67 mX12_hallWord_s lX12_298 rfl (by decide) (Nat.le_of_ble_eq_true rfl) (Md_hallWord (k := 1) (by decide)) rfl (st1 := [.ref (K.2.2.2.2.1 9), .int (nI (skP tp tn p)), .ref y]) rfl ?_
              refine x_cVS (i := 9) (N := mJ0_length_8abf5) (d' := 1) (mc := 0) (ms := 0) (cb := 0) (sb := 0) (As := []) (st := [.int (nI (skP tp tn p)), .ref y]) (by decide) dX12_hallClause_70 mJ0_length_8abf5_v rfl lX12_201 rfl (by decide) (Nat.le_of_ble_eq_true rfl) (Str_length (by decide)) rfl (st1 := [.int (nI ((xs_byt 9).length)), .int (nI (skP tp tn p)), .ref y]) rfl ?_
              refine x_pc (pc' := 73) rfl ?_
              refine x_iaddN dX12_hallClause_73 ?_
              refine x_put (fs' := [.int (F 0), .ref (y + 1), .ref (y + 2), .ref (y + 3), .ref (y + 4), .ref (y + 5), .ref (y + 6), .ref (y + 7), .ref (y + 8), .ref (y + 9), .ref (y + 10), .ref (y + 11), .ref (y + 12), .ref (y + 13), .ref (y + 14), .ref (y + 15), .ref (y + 16), .ref (y + 17), .ref (y + 18), .ref (y + 19), .ref (y + 20), .ref (y + 21), .ref (y + 22), .ref (y + 23), .ref (y + 24), .ref (y + 25), .ref (y + 26), .int (nI tn), .int (nI ((skP tp tn p) + ((xs_byt 9).length))), .int (nI 0), .int (nI sl), .int (F 31), .int (nI en), .int (nI de), .int (nI co), .int (nI op), .int (F 36), .ref (y + 27), .ref (y + 28), .ref (y + 29), .ref (y + 30), .ref (y + 31), .ref (y + 32), .ref (y + 33), .ref (y + 34), .ref (y + 35), .ref (y + 36), .ref (y + 37), .ref (y + 38), .int (F 49), .int (F 50), .int (F 51), .int (F 52), .int (F 53), .ref (y + 39), .ref (y + 40), .ref (y + 41), .int (F 57), .int (F 58), .ref (y + 42), .ref (y + 43), .ref (y + 44), .ref (y + 45), .int (F 63), .int (F 64)]) dX12_hallClause_74 fX12_190 (hN1.1) (Nat.le_of_ble_eq_true rfl) rfl rfl rfl ?_
              refine x_geq (G' := xup _ y (modO y (pF F tn ((skP tp tn p) + ((xs_byt 9).length)) 0 sl en de co op))) rfl ?_
              have hM102 := hN1.fld (pF F tn ((skP tp tn p) + ((xs_byt 9).length)) 0 sl en de co op)
              refine x_aload_n dX12_hallClause_77 2 rfl ?_
              refine x_iload_n dX12_hallClause_78 0 rfl ?_
              obtain ⟨x1, x2⟩ := st_at (tp := tp) (n := tn) (p := (skP tp tn p)) (by decide) xl_9 t1
              have hfu := of_decide_eq_false c51
              have hq9 : skP tp tn ((skP tp tn p) + (xs_byt 9).length) = skP tp tn (atA tp tn (skP tp tn q)) := by rw [← hq, x2, xl_9]
              have hb0 : bf ≠ 0 := by omega
              have hN0 : NH A hk 0 := by rw [if_neg hb0] at hN; exact hN
              refine x_cVe (N := mX12_hallPart) (d' := 4) (mc := 0) (ms := 0) (cb := 0) (sb := 0) (As := [.int (nI 1)]) (st := []) dX12_hallClause_79 mX12_hallPart_v lX12_305 rfl rfl (hM102.1) rfl (by decide) (Nat.le_of_ble_eq_true rfl) (Md_part1 hT hlt htn hM102 hK hB hN0 hC (by rw [xl_9]; exact x1) hq9 (by omega)) rfl (sf := fun G9 => []) (fun _ => rfl) (fun G9 hN9 => ?_)
              exact x_vret dX12_hallClause_82 rfl (xEx_i G9 (by rw [cl_1 hwi c51]; exact hN9) rfl rfl rfl)
            · refine x_aload_n dX12_hallClause_54 2 rfl ?_
              refine x_iconst dX12_hallClause_55 ki_4 ?_
              refine x_iload_n dX12_hallClause_56 1 rfl ?_
              refine x_cVe (N := mX12_fails) (d' := 0) (mc := 0) (ms := 0) (cb := 0) (sb := 0) (As := [.int (nI 4), .int (nI (skP tp tn p))]) (st := []) dX12_hallClause_57 mX12_fails_v lX12_226 rfl rfl (hN1.1) rfl (by decide) (Nat.le_of_ble_eq_true rfl) (Md_fails (f := 0) hN1 (by decide)) rfl (sf := fun G2 => []) (fun _ => rfl) (fun G2 hN2 => ?_)
              exact x_vret dX12_hallClause_60 rfl (xEx_i G2 (by rw [cl_full hwi c51]; exact ⟨by show flP tp tn 0 q 4 < _; rw [flP_z]; omega, A, (skP tp tn p), by show MW _ _ _ _ _ _ _ (pF F tn _ (flP tp tn 0 q 4) sl en de co op) _ _; rw [flP_z, ← hq]; rw [flt_z] at hN2; exact hN2, hK, hB, by omega, fun q0 => absurd q0 flP_ne⟩) rfl rfl rfl)
          · exact absurd c35 (by decide)
        · have s1 := c24
          refine x_iinc (v := nI (1 + 1)) (ls' := [(3, .int (nI (1 + 1))), (2, .int (nI (skP tp tn p))), (0, .ref y), (1, .int (nI bf))]) dX12_hallClause_27 0 rfl (nIs _) (by decide) rfl ?_
          refine x_goto (tgt := 11) dX12_hallClause_30 (by decide) ?_
          refine x_leq (ls' := [(3, .int (nI 2)), (2, .int (nI (skP tp tn p))), (0, .ref y), (1, .int (nI bf))]) rfl ?_
          refine x_iload_n dX12_hallClause_11 0 rfl ?_
          refine x_iconst dX12_hallClause_12 ki_5 ?_
          refine x_pc (pc' := 13) rfl ?_
          refine x_icmpN_ge (tgt := 33) dX12_hallClause_13 (by decide) (by omega) (by omega) (fun c13 => ?_) (fun c13 => ?_)
          · exact absurd c13 (by decide)
          · refine x_aload_n dX12_hallClause_16 2 rfl ?_
            refine x_iload_n dX12_hallClause_17 0 rfl ?_
            refine x_cS (N := mX12_hallWord) (d' := 0) (mc := 0) (ms := 0) (cb := 0) (sb := 0) (As := [.int (nI 2)]) (st := [.ref y]) dX12_hallClause_18 mX12_hallWord_s lX12_298 rfl (by decide) (Nat.le_of_ble_eq_true rfl) (Md_hallWord (k := 2) (by decide)) rfl (st1 := [.ref (K.2.2.2.2.1 7), .ref y]) rfl ?_
            refine x_cV (N := mX12_stood) (d' := 4) (mc := 0) (ms := 0) (cb := 0) (sb := 0) (As := [.ref (K.2.2.2.2.1 7)]) (st := []) dX12_hallClause_21 mX12_stood_v lX12_213 rfl rfl (hN1.1) rfl (by decide) (Nat.le_of_ble_eq_true rfl) (Md_stood (i := 7) hT hlt htn hN1 (by decide) (by omega)) rfl (st1 := [.int (bI (stB tp tn (skP tp tn p) 7))]) rfl ?_
            refine x_ifB_ne (tgt := 33) dX12_hallClause_24 (by decide) (fun c24 => ?_) (fun c24 => ?_)
            · have t2 := c24
              refine x_iload_n dX12_hallClause_33 0 rfl ?_
              refine x_iconst dX12_hallClause_34 ki_5 ?_
              refine x_icmpN_ne (tgt := 45) dX12_hallClause_35 (by decide) (by omega) (by omega) (fun c35 => ?_) (fun c35 => ?_)
              · rw [if_neg (by rw [s0]; decide), if_neg (by rw [s1]; decide), if_pos t2] at hwi
                refine x_aload_n dX12_hallClause_45 2 rfl ?_
                refine x_pc (pc' := 46) rfl ?_
                refine x_iload_n dX12_hallClause_46 0 rfl ?_
                refine x_iload_n dX12_hallClause_47 3 rfl ?_
                refine x_cV (N := mX12_isFull) (d' := 0) (mc := 0) (ms := 0) (cb := 0) (sb := 0) (As := [.int (nI 2), .int (nI bf)]) (st := []) dX12_hallClause_48 mX12_isFull_v lX12_301 rfl rfl (hN1.1) rfl (by decide) (Nat.le_of_ble_eq_true rfl) (Md_isFull2 hN1 hN hd2 hC hbf) rfl (st1 := [.int (bI (tooM hk 2 bf))]) rfl ?_
                refine x_ifB_eq (tgt := 61) dX12_hallClause_51 (by decide) (fun c51 => ?_) (fun c51 => ?_)
                · refine x_aload_n dX12_hallClause_61 2 rfl ?_
                  refine x_dup dX12_hallClause_62 rfl ?_
                  refine x_get (v := .int (nI (skP tp tn p))) dX12_hallClause_63 fX12_190 (hN1.1) rfl ?_
                  refine x_iload_n dX12_hallClause_66 0 rfl ?_
                  refine x_cS (N := mX12_hallWord) (d' := 0) (mc := 0) (ms := 0) (cb := 0) (sb := 0) (As := [.int (nI 2)]) (st := [.int (nI (skP tp tn p)), .ref y]) dX12_hallClause_67 mX12_hallWord_s lX12_298 rfl (by decide) (Nat.le_of_ble_eq_true rfl) (Md_hallWord (k := 2) (by decide)) rfl (st1 := [.ref (K.2.2.2.2.1 7), .int (nI (skP tp tn p)), .ref y]) rfl ?_
                  refine x_cVS (i := 7) (N := mJ0_length_8abf5) (d' := 1) (mc := 0) (ms := 0) (cb := 0) (sb := 0) (As := []) (st := [.int (nI (skP tp tn p)), .ref y]) (by decide) dX12_hallClause_70 mJ0_length_8abf5_v rfl lX12_201 rfl (by decide) (Nat.le_of_ble_eq_true rfl) (Str_length (by decide)) rfl (st1 := [.int (nI ((xs_byt 7).length)), .int (nI (skP tp tn p)), .ref y]) rfl ?_
                  refine x_pc (pc' := 73) rfl ?_
                  refine x_iaddN dX12_hallClause_73 ?_
                  refine x_put (fs' := [.int (F 0), .ref (y + 1), .ref (y + 2), .ref (y + 3), .ref (y + 4), .ref (y + 5), .ref (y + 6), .ref (y + 7), .ref (y + 8), .ref (y + 9), .ref (y + 10), .ref (y + 11), .ref (y + 12), .ref (y + 13), .ref (y + 14), .ref (y + 15), .ref (y + 16), .ref (y + 17), .ref (y + 18), .ref (y + 19), .ref (y + 20), .ref (y + 21), .ref (y + 22), .ref (y + 23), .ref (y + 24), .ref (y + 25), .ref (y + 26), .int (nI tn), .int (nI ((skP tp tn p) + ((xs_byt 7).length))), .int (nI 0), .int (nI sl), .int (F 31), .int (nI en), .int (nI de), .int (nI co), .int (nI op), .int (F 36), .ref (y + 27), .ref (y + 28), .ref (y + 29), .ref (y + 30), .ref (y + 31), .ref (y + 32), .ref (y + 33), .ref (y + 34), .ref (y + 35), .ref (y + 36), .ref (y + 37), .ref (y + 38), .int (F 49), .int (F 50), .int (F 51), .int (F 52), .int (F 53), .ref (y + 39), .ref (y + 40), .ref (y + 41), .int (F 57), .int (F 58), .ref (y + 42), .ref (y + 43), .ref (y + 44), .ref (y + 45), .int (F 63), .int (F 64)]) dX12_hallClause_74 fX12_190 (hN1.1) (Nat.le_of_ble_eq_true rfl) rfl rfl rfl ?_
                  refine x_geq (G' := xup _ y (modO y (pF F tn ((skP tp tn p) + ((xs_byt 7).length)) 0 sl en de co op))) rfl ?_
                  have hM103 := hN1.fld (pF F tn ((skP tp tn p) + ((xs_byt 7).length)) 0 sl en de co op)
                  refine x_aload_n dX12_hallClause_77 2 rfl ?_
                  refine x_iload_n dX12_hallClause_78 0 rfl ?_
                  obtain ⟨x1, x2⟩ := st_at (tp := tp) (n := tn) (p := (skP tp tn p)) (by decide) xl_7 t2
                  have hfu := of_decide_eq_false c51
                  have hq9 : skP tp tn ((skP tp tn p) + (xs_byt 7).length) = skP tp tn (atA tp tn (skP tp tn q)) := by rw [← hq, x2, xl_7]
                  have hb0 : bf ≠ 0 := by omega
                  have hN0 : NH A hk 0 := by rw [if_neg hb0] at hN; exact hN
                  refine x_cVe (N := mX12_hallPart) (d' := 4) (mc := 0) (ms := 0) (cb := 0) (sb := 0) (As := [.int (nI 2)]) (st := []) dX12_hallClause_79 mX12_hallPart_v lX12_305 rfl rfl (hM103.1) rfl (by decide) (Nat.le_of_ble_eq_true rfl) (Md_part2 hT hlt htn hM103 hK hB hN0 hC (by rw [xl_7]; exact x1) hq9) rfl (sf := fun G9 => []) (fun _ => rfl) (fun G9 hN9 => ?_)
                  exact x_vret dX12_hallClause_82 rfl (xEx_i G9 (by rw [cl_2 hwi c51]; exact hN9) rfl rfl rfl)
                · refine x_aload_n dX12_hallClause_54 2 rfl ?_
                  refine x_iconst dX12_hallClause_55 ki_4 ?_
                  refine x_iload_n dX12_hallClause_56 1 rfl ?_
                  refine x_cVe (N := mX12_fails) (d' := 0) (mc := 0) (ms := 0) (cb := 0) (sb := 0) (As := [.int (nI 4), .int (nI (skP tp tn p))]) (st := []) dX12_hallClause_57 mX12_fails_v lX12_226 rfl rfl (hN1.1) rfl (by decide) (Nat.le_of_ble_eq_true rfl) (Md_fails (f := 0) hN1 (by decide)) rfl (sf := fun G2 => []) (fun _ => rfl) (fun G2 hN2 => ?_)
                  exact x_vret dX12_hallClause_60 rfl (xEx_i G2 (by rw [cl_full hwi c51]; exact ⟨by show flP tp tn 0 q 4 < _; rw [flP_z]; omega, A, (skP tp tn p), by show MW _ _ _ _ _ _ _ (pF F tn _ (flP tp tn 0 q 4) sl en de co op) _ _; rw [flP_z, ← hq]; rw [flt_z] at hN2; exact hN2, hK, hB, by omega, fun q0 => absurd q0 flP_ne⟩) rfl rfl rfl)
              · exact absurd c35 (by decide)
            · have s2 := c24
              refine x_iinc (v := nI (2 + 1)) (ls' := [(3, .int (nI (2 + 1))), (2, .int (nI (skP tp tn p))), (0, .ref y), (1, .int (nI bf))]) dX12_hallClause_27 0 rfl (nIs _) (by decide) rfl ?_
              refine x_goto (tgt := 11) dX12_hallClause_30 (by decide) ?_
              refine x_leq (ls' := [(3, .int (nI 3)), (2, .int (nI (skP tp tn p))), (0, .ref y), (1, .int (nI bf))]) rfl ?_
              refine x_iload_n dX12_hallClause_11 0 rfl ?_
              refine x_iconst dX12_hallClause_12 ki_5 ?_
              refine x_pc (pc' := 13) rfl ?_
              refine x_icmpN_ge (tgt := 33) dX12_hallClause_13 (by decide) (by omega) (by omega) (fun c13 => ?_) (fun c13 => ?_)
              · exact absurd c13 (by decide)
              · refine x_aload_n dX12_hallClause_16 2 rfl ?_
                refine x_iload_n dX12_hallClause_17 0 rfl ?_
                refine x_cS (N := mX12_hallWord) (d' := 0) (mc := 0) (ms := 0) (cb := 0) (sb := 0) (As := [.int (nI 3)]) (st := [.ref y]) dX12_hallClause_18 mX12_hallWord_s lX12_298 rfl (by decide) (Nat.le_of_ble_eq_true rfl) (Md_hallWord (k := 3) (by decide)) rfl (st1 := [.ref (K.2.2.2.2.1 8), .ref y]) rfl ?_
                refine x_cV (N := mX12_stood) (d' := 4) (mc := 0) (ms := 0) (cb := 0) (sb := 0) (As := [.ref (K.2.2.2.2.1 8)]) (st := []) dX12_hallClause_21 mX12_stood_v lX12_213 rfl rfl (hN1.1) rfl (by decide) (Nat.le_of_ble_eq_true rfl) (Md_stood (i := 8) hT hlt htn hN1 (by decide) (by omega)) rfl (st1 := [.int (bI (stB tp tn (skP tp tn p) 8))]) rfl ?_
                refine x_ifB_ne (tgt := 33) dX12_hallClause_24 (by decide) (fun c24 => ?_) (fun c24 => ?_)
                · have t3 := c24
                  refine x_iload_n dX12_hallClause_33 0 rfl ?_
                  refine x_iconst dX12_hallClause_34 ki_5 ?_
                  refine x_icmpN_ne (tgt := 45) dX12_hallClause_35 (by decide) (by omega) (by omega) (fun c35 => ?_) (fun c35 => ?_)
                  · rw [if_neg (by rw [s0]; decide), if_neg (by rw [s1]; decide), if_neg (by rw [s2]; decide), if_neg (by rw [st_8 t3]; decide), if_pos t3] at hwi
                    refine x_aload_n dX12_hallClause_45 2 rfl ?_
                    refine x_pc (pc' := 46) rfl ?_
                    refine x_iload_n dX12_hallClause_46 0 rfl ?_
                    refine x_iload_n dX12_hallClause_47 3 rfl ?_
                    refine x_cV (N := mX12_isFull) (d' := 0) (mc := 0) (ms := 0) (cb := 0) (sb := 0) (As := [.int (nI 3), .int (nI bf)]) (st := []) dX12_hallClause_48 mX12_isFull_v lX12_301 rfl rfl (hN1.1) rfl (by decide) (Nat.le_of_ble_eq_true rfl) (Md_isFull3 hN1 hN hd2 hC hbf) rfl (st1 := [.int (bI (tooM hk 4 bf))]) rfl ?_
                    refine x_ifB_eq (tgt := 61) dX12_hallClause_51 (by decide) (fun c51 => ?_) (fun c51 => ?_)
                    · refine x_aload_n dX12_hallClause_61 2 rfl ?_
                      refine x_dup dX12_hallClause_62 rfl ?_
                      refine x_get (v := .int (nI (skP tp tn p))) dX12_hallClause_63 fX12_190 (hN1.1) rfl ?_
                      refine x_iload_n dX12_hallClause_66 0 rfl ?_
                      refine x_cS (N := mX12_hallWord) (d' := 0) (mc := 0) (ms := 0) (cb := 0) (sb := 0) (As := [.int (nI 3)]) (st := [.int (nI (skP tp tn p)), .ref y]) dX12_hallClause_67 mX12_hallWord_s lX12_298 rfl (by decide) (Nat.le_of_ble_eq_true rfl) (Md_hallWord (k := 3) (by decide)) rfl (st1 := [.ref (K.2.2.2.2.1 8), .int (nI (skP tp tn p)), .ref y]) rfl ?_
                      refine x_cVS (i := 8) (N := mJ0_length_8abf5) (d' := 1) (mc := 0) (ms := 0) (cb := 0) (sb := 0) (As := []) (st := [.int (nI (skP tp tn p)), .ref y]) (by decide) dX12_hallClause_70 mJ0_length_8abf5_v rfl lX12_201 rfl (by decide) (Nat.le_of_ble_eq_true rfl) (Str_length (by decide)) rfl (st1 := [.int (nI ((xs_byt 8).length)), .int (nI (skP tp tn p)), .ref y]) rfl ?_
                      refine x_pc (pc' := 73) rfl ?_
                      refine x_iaddN dX12_hallClause_73 ?_
                      refine x_put (fs' := [.int (F 0), .ref (y + 1), .ref (y + 2), .ref (y + 3), .ref (y + 4), .ref (y + 5), .ref (y + 6), .ref (y + 7), .ref (y + 8), .ref (y + 9), .ref (y + 10), .ref (y + 11), .ref (y + 12), .ref (y + 13), .ref (y + 14), .ref (y + 15), .ref (y + 16), .ref (y + 17), .ref (y + 18), .ref (y + 19), .ref (y + 20), .ref (y + 21), .ref (y + 22), .ref (y + 23), .ref (y + 24), .ref (y + 25), .ref (y + 26), .int (nI tn), .int (nI ((skP tp tn p) + ((xs_byt 8).length))), .int (nI 0), .int (nI sl), .int (F 31), .int (nI en), .int (nI de), .int (nI co), .int (nI op), .int (F 36), .ref (y + 27), .ref (y + 28), .ref (y + 29), .ref (y + 30), .ref (y + 31), .ref (y + 32), .ref (y + 33), .ref (y + 34), .ref (y + 35), .ref (y + 36), .ref (y + 37), .ref (y + 38), .int (F 49), .int (F 50), .int (F 51), .int (F 52), .int (F 53), .ref (y + 39), .ref (y + 40), .ref (y + 41), .int (F 57), .int (F 58), .ref (y + 42), .ref (y + 43), .ref (y + 44), .ref (y + 45), .int (F 63), .int (F 64)]) dX12_hallClause_74 fX12_190 (hN1.1) (Nat.le_of_ble_eq_true rfl) rfl rfl rfl ?_
                      refine x_geq (G' := xup _ y (modO y (pF F tn ((skP tp tn p) + ((xs_byt 8).length)) 0 sl en de co op))) rfl ?_
                      have hM104 := hN1.fld (pF F tn ((skP tp tn p) + ((xs_byt 8).length)) 0 sl en de co op)
                      refine x_aload_n dX12_hallClause_77 2 rfl ?_
                      refine x_iload_n dX12_hallClause_78 0 rfl ?_
                      obtain ⟨x1, x2⟩ := st_at (tp := tp) (n := tn) (p := (skP tp tn p)) (by decide) xl_8 t3
                      have hfu := of_decide_eq_false c51
                      have hq9 : skP tp tn ((skP tp tn p) + (xs_byt 8).length) = skP tp tn (atA tp tn (skP tp tn q)) := by rw [← hq, x2, xl_8]
                      have hb0 : bf ≠ 0 := by omega
                      have hN0 : NH A hk 0 := by rw [if_neg hb0] at hN; exact hN
                      refine x_cVe (N := mX12_hallPart) (d' := 5) (mc := 0) (ms := 0) (cb := 0) (sb := 0) (As := [.int (nI 3)]) (st := []) dX12_hallClause_79 mX12_hallPart_v lX12_305 rfl rfl (hM104.1) rfl (by decide) (Nat.le_of_ble_eq_true rfl) (Md_part3 hT hlt htn hM104 hK hB hN0 hC (by rw [xl_8]; exact x1) hq9 (by omega)) rfl (sf := fun G9 => []) (fun _ => rfl) (fun G9 hN9 => ?_)
                      exact x_vret dX12_hallClause_82 rfl (xEx_i G9 (by rw [cl_4 hwi c51]; exact hN9) rfl rfl rfl)
                    · refine x_aload_n dX12_hallClause_54 2 rfl ?_
                      refine x_iconst dX12_hallClause_55 ki_4 ?_
                      refine x_iload_n dX12_hallClause_56 1 rfl ?_
                      refine x_cVe (N := mX12_fails) (d' := 0) (mc := 0) (ms := 0) (cb := 0) (sb := 0) (As := [.int (nI 4), .int (nI (skP tp tn p))]) (st := []) dX12_hallClause_57 mX12_fails_v lX12_226 rfl rfl (hN1.1) rfl (by decide) (Nat.le_of_ble_eq_true rfl) (Md_fails (f := 0) hN1 (by decide)) rfl (sf := fun G2 => []) (fun _ => rfl) (fun G2 hN2 => ?_)
                      exact x_vret dX12_hallClause_60 rfl (xEx_i G2 (by rw [cl_full hwi c51]; exact ⟨by show flP tp tn 0 q 4 < _; rw [flP_z]; omega, A, (skP tp tn p), by show MW _ _ _ _ _ _ _ (pF F tn _ (flP tp tn 0 q 4) sl en de co op) _ _; rw [flP_z, ← hq]; rw [flt_z] at hN2; exact hN2, hK, hB, by omega, fun q0 => absurd q0 flP_ne⟩) rfl rfl rfl)
                  · exact absurd c35 (by decide)
                · have s3 := c24
                  refine x_iinc (v := nI (3 + 1)) (ls' := [(3, .int (nI (3 + 1))), (2, .int (nI (skP tp tn p))), (0, .ref y), (1, .int (nI bf))]) dX12_hallClause_27 0 rfl (nIs _) (by decide) rfl ?_
                  refine x_goto (tgt := 11) dX12_hallClause_30 (by decide) ?_
                  refine x_leq (ls' := [(3, .int (nI 4)), (2, .int (nI (skP tp tn p))), (0, .ref y), (1, .int (nI bf))]) rfl ?_
                  refine x_iload_n dX12_hallClause_11 0 rfl ?_
                  refine x_iconst dX12_hallClause_12 ki_5 ?_
                  refine x_pc (pc' := 13) rfl ?_
                  refine x_icmpN_ge (tgt := 33) dX12_hallClause_13 (by decide) (by omega) (by omega) (fun c13 => ?_) (fun c13 => ?_)
                  · exact absurd c13 (by decide)
                  · refine x_aload_n dX12_hallClause_16 2 rfl ?_
                    refine x_iload_n dX12_hallClause_17 0 rfl ?_
                    refine x_cS (N := mX12_hallWord) (d' := 0) (mc := 0) (ms := 0) (cb := 0) (sb := 0) (As := [.int (nI 4)]) (st := [.ref y]) dX12_hallClause_18 mX12_hallWord_s lX12_298 rfl (by decide) (Nat.le_of_ble_eq_true rfl) (Md_hallWord (k := 4) (by decide)) rfl (st1 := [.ref (K.2.2.2.2.1 23), .ref y]) rfl ?_
                    refine x_cV (N := mX12_stood) (d' := 4) (mc := 0) (ms := 0) (cb := 0) (sb := 0) (As := [.ref (K.2.2.2.2.1 23)]) (st := []) dX12_hallClause_21 mX12_stood_v lX12_213 rfl rfl (hN1.1) rfl (by decide) (Nat.le_of_ble_eq_true rfl) (Md_stood (i := 23) hT hlt htn hN1 (by decide) (by omega)) rfl (st1 := [.int (bI (stB tp tn (skP tp tn p) 23))]) rfl ?_
                    refine x_ifB_ne (tgt := 33) dX12_hallClause_24 (by decide) (fun c24 => ?_) (fun c24 => ?_)
                    · have t4 := c24
                      refine x_iload_n dX12_hallClause_33 0 rfl ?_
                      refine x_iconst dX12_hallClause_34 ki_5 ?_
                      refine x_icmpN_ne (tgt := 45) dX12_hallClause_35 (by decide) (by omega) (by omega) (fun c35 => ?_) (fun c35 => ?_)
                      · rw [if_neg (by rw [s0]; decide), if_neg (by rw [s1]; decide), if_neg (by rw [s2]; decide), if_pos t4] at hwi
                        refine x_aload_n dX12_hallClause_45 2 rfl ?_
                        refine x_pc (pc' := 46) rfl ?_
                        refine x_iload_n dX12_hallClause_46 0 rfl ?_
                        refine x_iload_n dX12_hallClause_47 3 rfl ?_
                        refine x_cV (N := mX12_isFull) (d' := 0) (mc := 0) (ms := 0) (cb := 0) (sb := 0) (As := [.int (nI 4), .int (nI bf)]) (st := []) dX12_hallClause_48 mX12_isFull_v lX12_301 rfl rfl (hN1.1) rfl (by decide) (Nat.le_of_ble_eq_true rfl) (Md_isFull4 hN1 hN hd2 hC hbf) rfl (st1 := [.int (bI (tooM hk 3 bf))]) rfl ?_
                        refine x_ifB_eq (tgt := 61) dX12_hallClause_51 (by decide) (fun c51 => ?_) (fun c51 => ?_)
                        · refine x_aload_n dX12_hallClause_61 2 rfl ?_
                          refine x_dup dX12_hallClause_62 rfl ?_
                          refine x_get (v := .int (nI (skP tp tn p))) dX12_hallClause_63 fX12_190 (hN1.1) rfl ?_
                          refine x_iload_n dX12_hallClause_66 0 rfl ?_
                          refine x_cS (N := mX12_hallWord) (d' := 0) (mc := 0) (ms := 0) (cb := 0) (sb := 0) (As := [.int (nI 4)]) (st := [.int (nI (skP tp tn p)), .ref y]) dX12_hallClause_67 mX12_hallWord_s lX12_298 rfl (by decide) (Nat.le_of_ble_eq_true rfl) (Md_hallWord (k := 4) (by decide)) rfl (st1 := [.ref (K.2.2.2.2.1 23), .int (nI (skP tp tn p)), .ref y]) rfl ?_
                          refine x_cVS (i := 23) (N := mJ0_length_8abf5) (d' := 1) (mc := 0) (ms := 0) (cb := 0) (sb := 0) (As := []) (st := [.int (nI (skP tp tn p)), .ref y]) (by decide) dX12_hallClause_70 mJ0_length_8abf5_v rfl lX12_201 rfl (by decide) (Nat.le_of_ble_eq_true rfl) (Str_length (by decide)) rfl (st1 := [.int (nI ((xs_byt 23).length)), .int (nI (skP tp tn p)), .ref y]) rfl ?_
                          refine x_pc (pc' := 73) rfl ?_
                          refine x_iaddN dX12_hallClause_73 ?_
                          refine x_put (fs' := [.int (F 0), .ref (y + 1), .ref (y + 2), .ref (y + 3), .ref (y + 4), .ref (y + 5), .ref (y + 6), .ref (y + 7), .ref (y + 8), .ref (y + 9), .ref (y + 10), .ref (y + 11), .ref (y + 12), .ref (y + 13), .ref (y + 14), .ref (y + 15), .ref (y + 16), .ref (y + 17), .ref (y + 18), .ref (y + 19), .ref (y + 20), .ref (y + 21), .ref (y + 22), .ref (y + 23), .ref (y + 24), .ref (y + 25), .ref (y + 26), .int (nI tn), .int (nI ((skP tp tn p) + ((xs_byt 23).length))), .int (nI 0), .int (nI sl), .int (F 31), .int (nI en), .int (nI de), .int (nI co), .int (nI op), .int (F 36), .ref (y + 27), .ref (y + 28), .ref (y + 29), .ref (y + 30), .ref (y + 31), .ref (y + 32), .ref (y + 33), .ref (y + 34), .ref (y + 35), .ref (y + 36), .ref (y + 37), .ref (y + 38), .int (F 49), .int (F 50), .int (F 51), .int (F 52), .int (F 53), .ref (y + 39), .ref (y + 40), .ref (y + 41), .int (F 57), .int (F 58), .ref (y + 42), .ref (y + 43), .ref (y + 44), .ref (y + 45), .int (F 63), .int (F 64)]) dX12_hallClause_74 fX12_190 (hN1.1) (Nat.le_of_ble_eq_true rfl) rfl rfl rfl ?_
                          refine x_geq (G' := xup _ y (modO y (pF F tn ((skP tp tn p) + ((xs_byt 23).length)) 0 sl en de co op))) rfl ?_
                          have hM105 := hN1.fld (pF F tn ((skP tp tn p) + ((xs_byt 23).length)) 0 sl en de co op)
                          refine x_aload_n dX12_hallClause_77 2 rfl ?_
                          refine x_iload_n dX12_hallClause_78 0 rfl ?_
                          obtain ⟨x1, x2⟩ := st_at (tp := tp) (n := tn) (p := (skP tp tn p)) (by decide) xl_23 t4
                          have hfu := of_decide_eq_false c51
                          have hq9 : skP tp tn ((skP tp tn p) + (xs_byt 23).length) = skP tp tn (atA tp tn (skP tp tn q)) := by rw [← hq, x2, xl_23]
                          have hb0 : bf ≠ 0 := by omega
                          have hN0 : NH A hk 0 := by rw [if_neg hb0] at hN; exact hN
                          refine x_cVe (N := mX12_hallPart) (d' := 5) (mc := 0) (ms := 0) (cb := 0) (sb := 0) (As := [.int (nI 4)]) (st := []) dX12_hallClause_79 mX12_hallPart_v lX12_305 rfl rfl (hM105.1) rfl (by decide) (Nat.le_of_ble_eq_true rfl) (Md_part4 hT hlt htn hM105 hK hB hN0 hC (by rw [xl_23]; exact x1) hq9) rfl (sf := fun G9 => []) (fun _ => rfl) (fun G9 hN9 => ?_)
                          exact x_vret dX12_hallClause_82 rfl (xEx_i G9 (by rw [cl_3 hwi c51]; exact hN9) rfl rfl rfl)
                        · refine x_aload_n dX12_hallClause_54 2 rfl ?_
                          refine x_iconst dX12_hallClause_55 ki_4 ?_
                          refine x_iload_n dX12_hallClause_56 1 rfl ?_
                          refine x_cVe (N := mX12_fails) (d' := 0) (mc := 0) (ms := 0) (cb := 0) (sb := 0) (As := [.int (nI 4), .int (nI (skP tp tn p))]) (st := []) dX12_hallClause_57 mX12_fails_v lX12_226 rfl rfl (hN1.1) rfl (by decide) (Nat.le_of_ble_eq_true rfl) (Md_fails (f := 0) hN1 (by decide)) rfl (sf := fun G2 => []) (fun _ => rfl) (fun G2 hN2 => ?_)
                          exact x_vret dX12_hallClause_60 rfl (xEx_i G2 (by rw [cl_full hwi c51]; exact ⟨by show flP tp tn 0 q 4 < _; rw [flP_z]; omega, A, (skP tp tn p), by show MW _ _ _ _ _ _ _ (pF F tn _ (flP tp tn 0 q 4) sl en de co op) _ _; rw [flP_z, ← hq]; rw [flt_z] at hN2; exact hN2, hK, hB, by omega, fun q0 => absurd q0 flP_ne⟩) rfl rfl rfl)
                      · exact absurd c35 (by decide)
                    · have s4 := c24
                      refine x_iinc (v := nI (4 + 1)) (ls' := [(3, .int (nI (4 + 1))), (2, .int (nI (skP tp tn p))), (0, .ref y), (1, .int (nI bf))]) dX12_hallClause_27 0 rfl (nIs _) (by decide) rfl ?_
                      refine x_goto (tgt := 11) dX12_hallClause_30 (by decide) ?_
                      refine x_leq (ls' := [(3, .int (nI 5)), (2, .int (nI (skP tp tn p))), (0, .ref y), (1, .int (nI bf))]) rfl ?_
                      refine x_iload_n dX12_hallClause_11 0 rfl ?_
                      refine x_iconst dX12_hallClause_12 ki_5 ?_
                      refine x_pc (pc' := 13) rfl ?_
                      refine x_icmpN_ge (tgt := 33) dX12_hallClause_13 (by decide) (by omega) (by omega) (fun c13 => ?_) (fun c13 => ?_)
                      · refine x_iload_n dX12_hallClause_33 0 rfl ?_
                        refine x_iconst dX12_hallClause_34 ki_5 ?_
                        refine x_icmpN_ne (tgt := 45) dX12_hallClause_35 (by decide) (by omega) (by omega) (fun c35 => ?_) (fun c35 => ?_)
                        · exact absurd rfl c35
                        · rw [if_neg (by rw [s0]; decide), if_neg (by rw [s1]; decide), if_neg (by rw [s2]; decide), if_neg (by rw [s4]; decide), if_neg (by rw [s3]; decide)] at hwi
                          refine x_aload_n dX12_hallClause_38 2 rfl ?_
                          refine x_iconst dX12_hallClause_39 ki_0 ?_
                          refine x_iload_n dX12_hallClause_40 1 rfl ?_
                          refine x_cVe (N := mX12_fails) (d' := 0) (mc := 0) (ms := 0) (cb := 0) (sb := 0) (As := [.int (nI 0), .int (nI (skP tp tn p))]) (st := []) dX12_hallClause_41 mX12_fails_v lX12_226 rfl rfl (hN1.1) rfl (by decide) (Nat.le_of_ble_eq_true rfl) (Md_fails (f := 0) hN1 (by decide)) rfl (sf := fun G2 => []) (fun _ => rfl) (fun G2 hN2 => ?_)
                          exact x_vret dX12_hallClause_44 rfl (xEx_i G2 (by rw [cl_none hwi]; exact ⟨by show flP tp tn 0 q 0 < _; rw [flP_z]; omega, A, (skP tp tn p), by show MW _ _ _ _ _ _ _ (pF F tn _ (flP tp tn 0 q 0) sl en de co op) _ _; rw [flP_z, ← hq]; rw [flt_z] at hN2; exact hN2, hK, hB, by omega, fun q0 => absurd q0 flP_ne⟩) rfl rfl rfl)
                      · exact absurd c13 (by decide)
