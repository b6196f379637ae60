/-! ===== what is asked: the day of trials ===== -/
def RuleIn (G : xHp) (ru : Option Nat) (rv : Option (List Nat)) (lo : Nat) : Prop := (ru = none ∧ rv = none) ∨ ∃ ra sp, ru = some ra ∧ rv = some sp ∧ RuleAt G ra sp ∧ lo ≤ ra
theorem RuleIn.rv {G : xHp} {ru : Option Nat} {rv : Option (List Nat)} {lo b j : Nat} (h : RuleIn G ru rv lo) (hb : b + 10 ≤ lo) (hj : j + 3 ≤ lo) : RvAt G ru rv b j := by
  rcases h with h | ⟨ra, sp, h1, h2, h3, h4⟩
  · exact Or.inl h
  · exact Or.inr ⟨ra, sp, h1, h2, h3, by omega, by omega⟩
theorem RuleIn.fr {G G' : xHp} {ru : Option Nat} {rv : Option (List Nat)} {lo : Nat} (h : RuleIn G ru rv lo) (hf : ∀ a, lo ≤ a → G' a = G a) : RuleIn G' ru rv lo := by
  rcases h with h | ⟨ra, sp, h1, h2, h3, h4⟩
  · exact Or.inl h
  · exact Or.inr ⟨ra, sp, h1, h2, h3.fr (hf _ (by omega)) (hf _ (by omega)), h4⟩
def FrS (G G' : xHp) (x : Nat) : Prop := ∀ a, ¬ (a = x + 17 ∨ a = x + 18 ∨ (x + 36 ≤ a ∧ a < x + 47)) → G' a = G a
theorem FrS.tr {G G1 G2 : xHp} {x : Nat} (h1 : FrS G G1 x) (h2 : FrS G1 G2 x) : FrS G G2 x := fun a h => (h2 a h).trans (h1 a h)
theorem FrS.rf {G : xHp} {x : Nat} : FrS G G x := fun _ _ => rfl
abbrev asksO (x : Nat) (ch mo : Int32) : xE := eO 0 [.ref (x + 26), .ref (x + 37), .ref (x + 47), .int ch, .int mo]
def TrW (G0 G : xHp) (x : Nat) (hk : xHl) (rk : xRw) (rt : Option Nat) (ch mo : Int32) : Prop := G (x + 36) = some (asksO x ch mo) ∧ DayAt G (x + 37) hk rk (x + 16) rt ∧ (∃ wd sk, JudgeAt G (x + 16) wd sk) ∧ FrS G0 G x
theorem TrW.now {G0 G : xHp} {x : Nat} {hk hl : xHl} {rk r : xRw} {rt ru : Option Nat} {ch mo : Int32} (h : TrW G0 G x hk rk rt ch mo) (hN : DayAt G0 (x + 26) hl r (x + 16) ru) : DayAt G (x + 26) hl r (x + 16) ru := hN.fr (fun a h1 h2 => h.2.2.2 a (by omega))
theorem TrW.rule {G0 G : xHp} {x : Nat} {hk : xHl} {rk : xRw} {rt ru : Option Nat} {rv : Option (List Nat)} {ch mo : Int32} (h : TrW G0 G x hk rk rt ch mo) (hR : RuleIn G0 ru rv (x + 51)) : RuleIn G ru rv (x + 51) := hR.fr (fun a h1 => h.2.2.2 a (by omega))
theorem TrW.re {G0 G G1 : xHp} {x : Nat} {hk : xHl} {rk : xRw} {rt : Option Nat} {ch mo : Int32} (h : TrW G0 G x hk rk rt ch mo) (h1 : TrW G G1 x hk rk rt ch mo) : TrW G0 G1 x hk rk rt ch mo := ⟨h1.1, h1.2.1, h1.2.2.1, h.2.2.2.tr h1.2.2.2⟩
abbrev trQ (G0 : xHp) (h x : Nat) (v : Option Value) (hk : xHl) (rk : xRw) (rt : Option Nat) (ch mo : Int32) : xPost := xEx (fun G' => TrW G0 G' x hk rk rt ch mo) (fun _ => v) (fun _ => h) (fun G' => G')
section TRL
variable {K : xG} {h x : Nat} {G0 G : xHp} {hk hl : xHl} {rk r : xRw} {rt ru : Option Nat} {rv : Option (List Nat)} {ch mo : Int32}
theorem Tr_copy (hN : DayAt G0 (x + 26) hl r (x + 16) ru) (hT : TrW G0 G x hk rk rt ch mo) : xCall K mX2_copy 2 0 0 [.ref (x + 37), .ref (x + 26)] h G (trQ G0 h x none hl r ru ch mo) := by
  refine x_callpost (fun v h' G' hq => ?_) (Day_copy hT.2.1 (hT.now hN) (by omega))
  obtain ⟨G1, ⟨h1, h2⟩, e1, e2, e3⟩ := hq
  obtain ⟨t1, t2, ⟨wd, sk, t3⟩, t4⟩ := hT
  exact ⟨G1, ⟨(h2 _ (by omega)).trans t1, h1, ⟨wd, sk, t3.fr (fun a b c => h2 a (by omega))⟩, t4.tr (fun a ha => h2 a (by omega))⟩, e1, e2, e3⟩
theorem TrW.go {wd sk w s : Nat → Int64} {r' : xRw} (hT : TrW G0 G x hk rk rt ch mo) (hJ : JudgeAt G (x + 16) wd sk) : TrW G0 (dayG G (x + 37) (x + 16) r' w s) x hk r' rt ch mo := by
  refine ⟨?_, hT.2.1.go (by omega), ⟨w, s, hJ.go (by omega)⟩, hT.2.2.2.tr (fun a ha => ?_)⟩
  · unfold dayG
    rw [xup_ne (by omega), xup_ne (by omega), xup_ne (by omega)]; exact hT.1
  · unfold dayG
    rw [xup_ne (by omega), xup_ne (by omega), xup_ne (by omega)]
theorem Tr_goOn (hT : TrW G0 G x hk rk rt ch mo) (hR : RuleIn G0 rt rv (x + 51)) (hO : HallOk hk) (hrow : RowOk hk rk) : xCall K mX2_goOn 3 0 0 [.ref (x + 37)] h G (trQ G0 h x (some (.int (goMin hk rv rk).2)) hk (goMin hk rv rk).1 rt ch mo) := by
  obtain ⟨wd, sk, hJ⟩ := hT.2.2.1
  refine x_callpost (fun v h' G' hq => ?_) (Day_goOn hT.2.1 hJ ((hT.rule hR).rv (by omega) (by omega)) hO (by omega) hrow)
  obtain ⟨e, -, e1, e2, e3⟩ := hq
  exact ⟨_, hT.go hJ, e1, e2, e3⟩
theorem Tr_goFar {n : Nat} (hT : TrW G0 G x hk rk rt ch mo) (hR : RuleIn G0 rt rv (x + 51)) (hO : HallOk hk) (hrow : RowOk hk rk) (hn : n < 100000) : xCall K mX2_goFar 4 0 0 [.ref (x + 37), .int (nI n)] h G (xEx (fun e : xRw × xHp => (VisEq hk (goN hk rv rk n) e.1 ∧ RowOk hk e.1) ∧ TrW G0 e.2 x hk e.1 rt ch mo) (fun _ => none) (fun _ => h) (fun e => e.2)) := by
  obtain ⟨wd, sk, hJ⟩ := hT.2.2.1
  refine x_callpost (fun v h' G' hq => ?_) (Day_goFar hT.2.1 hJ ((hT.rule hR).rv (by omega) (by omega)) hO (by omega) hrow hn)
  obtain ⟨e, ⟨h1, h2⟩, e1, e2, e3⟩ := hq
  exact ⟨(goN hk rv rk e.1, _), ⟨⟨far_vis hO hrow h1 h2, goN_ok hO hrow _⟩, hT.go hJ⟩, e1, e2, e3⟩
theorem TrW.row (hT : TrW G0 G x hk rk rt ch mo) (r' : xRw) : TrW G0 (xup G (x + 46) (eI 0 35 r')) x hk r' rt ch mo := by
  obtain ⟨t1, t2, ⟨wd, sk, t3⟩, t4⟩ := hT
  exact ⟨xup_of (by omega) t1, t2.row r', ⟨wd, sk, t3.fr (fun a b c => xup_ne (by omega))⟩, t4.tr (fun a ha => xup_ne (by omega))⟩
theorem TrW.obj (hT : TrW G0 G x hk rk rt ch mo) (ch' mo' : Int32) : TrW G0 (xup G (x + 36) (asksO x ch' mo')) x hk rk rt ch' mo' := by
  obtain ⟨t1, t2, ⟨wd, sk, t3⟩, t4⟩ := hT
  exact ⟨xup_eq, t2.off (by omega), ⟨wd, sk, t3.fr (fun a b c => xup_ne (by omega))⟩, t4.tr (fun a ha => xup_ne (by omega))⟩
theorem Tr_begin {q t : Nat} (hT : TrW G0 G x hk rk rt ch mo) (hq : q < 4) (ht : t < 7) (hs : hk 4 t < 4) : xCall K mX2_begin 1 0 0 [.ref (x + 37), .int (nI q), .int (nI t)] h G (trQ G0 h x none hk (beginR hk rk q t) rt ch mo) := by
  refine x_callpost (fun v h' G' hq => ?_) (Day_begin hT.2.1 hq ht hs)
  obtain ⟨e1, e2, e3⟩ := hq
  exact ⟨_, hT.row _, e1, e2, e3⟩
end TRL
theorem Asks_dayAfter {K : xG} {h x : Nat} {G0 G : xHp} {hl : xHl} {r : xRw} {ru : Option Nat} {rv : Option (List Nat)}{hk : xHl} {rk : xRw} {rt : Option Nat} {ch mo : Int32} {n : Nat} (hN : DayAt G0 (x + 26) hl r (x + 16) ru) (hT : TrW G0 G x hk rk rt ch mo) (hR : RuleIn G0 ru rv (x + 51)) (hO : HallOk hl) (hrow : RowOk hl r) (hn : n < 100000) : xCall K mX0_dayAfter 5 0 0 [.ref (x + 36), .int (nI n)] h G (xEx (fun e : xRw × xHp => (VisEq hl (goN hl rv r n) e.1 ∧ RowOk hl e.1) ∧ TrW G0 e.2 x hl e.1 ru ch mo) (fun _ => some (.ref (x + 37))) (fun _ => h) (fun e => e.2)) := by
  refine x_entry (by decide) (ls := [(0, .ref (x + 36)), (1, .int (nI n))]) rfl (Nat.le_of_ble_eq_true rfl) ?_
  have hNz := hT.now hN
  refine x_aload_n dX0_dayAfter_0 0 rfl ?_
  refine x_get dX0_dayAfter_1 fX0_20 (hT.1) rfl ?_
  refine x_aload_n dX0_dayAfter_4 0 rfl ?_
  refine x_get dX0_dayAfter_5 fX0_9 (hT.1) rfl ?_
  refine x_cVe (N := mX2_copy) (d' := 2) (mc := 0) (ms := 0) (cb := 0) (sb := 0) (As := [.ref (x + 26)]) (st := []) dX0_dayAfter_8 mX2_copy_v lX0_32 rfl rfl (hT.2.1.1) rfl (by decide) (Nat.le_of_ble_eq_true rfl) (Tr_copy hN hT) rfl (sf := fun G1 => []) (fun _ => rfl) (fun G1 hT1 => ?_)
  have hN1 := hT1.now hN
  refine x_aload_n dX0_dayAfter_11 0 rfl ?_
  refine x_get dX0_dayAfter_12 fX0_20 (hT1.1) rfl ?_
  refine x_iload_n dX0_dayAfter_15 1 rfl ?_
  refine x_cVe (N := mX2_goFar) (d' := 4) (mc := 0) (ms := 0) (cb := 0) (sb := 0) (As := [.int (nI n)]) (st := []) dX0_dayAfter_16 mX2_goFar_v lX0_35 rfl rfl (hT1.2.1.1) rfl (by decide) (Nat.le_of_ble_eq_true rfl) (Tr_goFar hT1 hR hO hrow hn) rfl (sf := fun e2 => []) (fun _ => rfl) (fun e2 hq2 => ?_)
  obtain ⟨⟨hv2, hok2⟩, hT2⟩ := hq2
  obtain ⟨r2, G2⟩ := e2
  simp only at hv2 hok2 hT2
  refine x_pc (pc' := 19) rfl ?_
  refine x_aload_n dX0_dayAfter_19 0 rfl ?_
  refine x_get dX0_dayAfter_20 fX0_20 (hT2.1) rfl ?_
  exact x_aret dX0_dayAfter_23 rfl (by simp) (by simp) (xEx_i (r2, G2) ⟨⟨hv2, hok2⟩, hT2⟩ rfl rfl rfl)
def till (hl : xHl) (rv : Option (List Nat)) (t : Nat) : Nat → xRw → xRw
  | 0, r => r
  | n + 1, r => if r (21 + t) < 3 then till hl rv t n (goMin hl rv r).1 else r
theorem till_ok {hl : xHl} {rv : Option (List Nat)} {t : Nat} (hO : HallOk hl) : ∀ (n : Nat) {r : xRw}, RowOk hl r → RowOk hl (till hl rv t n r)
  | 0, r, h => h
  | n + 1, r, h => by
    simp only [till]
    split
    · exact till_ok hO n (goMin_ok hO h)
    · exact h
def wtF (hl : xHl) (rv : Option (List Nat)) (t : Nat) : Nat → xRw → Int32
  | 0, _ => -2
  | n + 1, r => if nI 1 < (goMin hl rv r).1 (21 + t) then (goMin hl rv r).1 0 - nI 1 - nI (hl 5 t) else wtF hl rv t n (goMin hl rv r).1
theorem Asks_goTillOver_loop {K : xG} {h x t : Nat} {G0 : xHp} {hk : xHl} {rt : Option Nat} {rv : Option (List Nat)} {ch mo : Int32} {R : xRw} (hR : RuleIn G0 rt rv (x + 51)) (hO : HallOk hk) (ht : t < 7) : ∀ (i k : Nat) (rk : xRw) (G1 : xHp), k + i = 400 → till hk rv t i rk = R → RowOk hk rk → TrW G0 G1 x hk rk rt ch mo → xV K mX0_goTillOver 4 0 0 h G1 2 [(2, .int (nI k)), (0, .ref (x + 36)), (1, .int (nI t))] [] (trQ G0 h x none hk R rt ch mo) := by
  intro i
  induction i with
  | zero =>
    intro k rk G1 hv hr hok hT1
    refine x_iload_n dX0_goTillOver_2 0 rfl ?_
    refine x_sipush dX0_goTillOver_3 ks_400 ?_
    refine x_icmpN_ge (tgt := 35) dX0_goTillOver_6 (by decide) (by omega) (by omega) (fun c6 => ?_) (fun c6 => ?_)
    · exact x_vret dX0_goTillOver_35 rfl (xEx_i G1 (hr ▸ hT1) rfl rfl rfl)
    · exact absurd c6 (by omega)
  | succ i ih =>
    intro k rk G1 hv hr hok hT1
    refine x_iload_n dX0_goTillOver_2 0 rfl ?_
    refine x_sipush dX0_goTillOver_3 ks_400 ?_
    refine x_icmpN_ge (tgt := 35) dX0_goTillOver_6 (by decide) (by omega) (by omega) (fun c6 => ?_) (fun c6 => ?_)
    · exact absurd c6 (by omega)
    · refine x_aload_n dX0_goTillOver_9 1 rfl ?_
      refine x_get dX0_goTillOver_10 fX0_20 (hT1.1) rfl ?_
      refine x_iload_n dX0_goTillOver_13 2 rfl ?_
      refine x_cV (N := mX2_howIs) (d' := 0) (mc := 0) (ms := 0) (cb := 0) (sb := 0) (As := [.int (nI t)]) (st := []) dX0_goTillOver_14 mX2_howIs_v lX0_42 rfl rfl (hT1.2.1.1) rfl (by decide) (Nat.le_of_ble_eq_true rfl) (Day_howIs hT1.2.1 ht) rfl (st1 := [.int (rk (21 + t))]) rfl ?_
      refine x_iconst dX0_goTillOver_17 ki_3 ?_
      refine x_icmp_ge (x := rk (21 + t)) (y := nI 3) (tgt := 35) dX0_goTillOver_18 (by decide) (fun c18 => ?_) (fun c18 => ?_)
      · refine x_pc (pc' := 35) rfl ?_
        exact x_vret dX0_goTillOver_35 rfl (xEx_i G1 (by rw [show R = rk from hr.symm.trans (if_neg (Int32.not_lt.mpr c18))]; exact hT1) rfl rfl rfl)
      · refine x_pc (pc' := 21) rfl ?_
        refine x_aload_n dX0_goTillOver_21 1 rfl ?_
        refine x_get dX0_goTillOver_22 fX0_20 (hT1.1) rfl ?_
        refine x_cVe (N := mX2_goOn) (d' := 3) (mc := 0) (ms := 0) (cb := 0) (sb := 0) (As := []) (st := []) dX0_goTillOver_25 mX2_goOn_v lX0_50 rfl rfl (hT1.2.1.1) rfl (by decide) (Nat.le_of_ble_eq_true rfl) (Tr_goOn hT1 hR hO hok) rfl (sf := fun G2 => [.int ((goMin hk rv rk).2)]) (fun _ => rfl) (fun G2 hT2 => ?_)
        refine x_pop dX0_goTillOver_28 rfl ?_
        refine x_iinc (v := nI (k + 1)) (ls' := [(2, .int (nI (k + 1))), (0, .ref (x + 36)), (1, .int (nI t))]) dX0_goTillOver_29 0 rfl (nIs _) (by decide) rfl ?_
        refine x_goto (tgt := 2) dX0_goTillOver_32 (by decide) ?_
        exact ih (k + 1) _ G2 (by omega) ((if_pos (Int32.not_le.mp c18)).symm.trans hr) (goMin_ok hO hok) hT2
theorem Asks_goTillOver {K : xG} {h x t : Nat} {G0 G : xHp} {hk : xHl} {rk : xRw} {rt : Option Nat} {rv : Option (List Nat)} {ch mo : Int32} (hR : RuleIn G0 rt rv (x + 51)) (hO : HallOk hk) (ht : t < 7) (hok : RowOk hk rk) (hT : TrW G0 G x hk rk rt ch mo) : xCall K mX0_goTillOver 4 0 0 [.ref (x + 36), .int (nI t)] h G (trQ G0 h x none hk (till hk rv t 400 rk) rt ch mo) := by
  refine x_entry (by decide) (ls := [(0, .ref (x + 36)), (1, .int (nI t))]) rfl (Nat.le_of_ble_eq_true rfl) ?_
  refine x_iconst dX0_goTillOver_0 ki_0 ?_
  refine x_istore_n (ls' := [(2, .int (nI 0)), (0, .ref (x + 36)), (1, .int (nI t))]) dX0_goTillOver_1 (by decide) rfl ?_
  exact Asks_goTillOver_loop hR hO ht 400 0 rk G (by omega) rfl hok hT
def doneS (hl : xHl) (rv : Option (List Nat)) (r : xRw) (t : Nat) : Int32 := if till hl rv t 400 r (21 + t) = 3 then till hl rv t 400 r (28 + t) else -2
theorem Asks_whenMended {K : xG} {h x : Nat} {G0 G : xHp} {hl : xHl} {r : xRw} {ru : Option Nat} {rv : Option (List Nat)}{hk : xHl} {rk : xRw} {rt : Option Nat} {ch mo : Int32} {t : Nat} (hN : DayAt G0 (x + 26) hl r (x + 16) ru) (hT : TrW G0 G x hk rk rt ch mo) (hR : RuleIn G0 ru rv (x + 51)) (hO : HallOk hl) (hrow : RowOk hl r) (ht : t < 7) : xCall K mX0_whenMended 5 0 0 [.ref (x + 36), .int (nI t)] h G (xEx (fun e : xHl × xRw × xHp => TrW G0 e.2.2 x e.1 e.2.1 ru ch mo) (fun _ => some (.int (doneS hl rv r t))) (fun _ => h) (fun e => e.2.2)) := by
  refine x_entry (by decide) (ls := [(0, .ref (x + 36)), (1, .int (nI t))]) rfl (Nat.le_of_ble_eq_true rfl) ?_
  have hNz := hT.now hN
  refine x_aload_n dX0_whenMended_0 0 rfl ?_
  refine x_get dX0_whenMended_1 fX0_20 (hT.1) rfl ?_
  refine x_aload_n dX0_whenMended_4 0 rfl ?_
  refine x_get dX0_whenMended_5 fX0_9 (hT.1) rfl ?_
  refine x_cVe (N := mX2_copy) (d' := 2) (mc := 0) (ms := 0) (cb := 0) (sb := 0) (As := [.ref (x + 26)]) (st := []) dX0_whenMended_8 mX2_copy_v lX0_32 rfl rfl (hT.2.1.1) rfl (by decide) (Nat.le_of_ble_eq_true rfl) (Tr_copy hN hT) rfl (sf := fun G1 => []) (fun _ => rfl) (fun G1 hT1 => ?_)
  have hN1 := hT1.now hN
  refine x_aload_n dX0_whenMended_11 0 rfl ?_
  refine x_iload_n dX0_whenMended_12 1 rfl ?_
  refine x_cVe (N := mX0_goTillOver) (d' := 4) (mc := 0) (ms := 0) (cb := 0) (sb := 0) (As := [.int (nI t)]) (st := []) dX0_whenMended_13 mX0_goTillOver_v lX0_39 rfl rfl (hT1.1) rfl (by decide) (Nat.le_of_ble_eq_true rfl) (Asks_goTillOver hR hO ht hrow hT1) rfl (sf := fun G2 => []) (fun _ => rfl) (fun G2 hT2 => ?_)
  refine x_aload_n dX0_whenMended_16 0 rfl ?_
  refine x_pc (pc' := 17) rfl ?_
  refine x_get dX0_whenMended_17 fX0_20 (hT2.1) rfl ?_
  refine x_iload_n dX0_whenMended_20 1 rfl ?_
  refine x_cV (N := mX2_howIs) (d' := 0) (mc := 0) (ms := 0) (cb := 0) (sb := 0) (As := [.int (nI t)]) (st := []) dX0_whenMended_21 mX2_howIs_v lX0_42 rfl rfl (hT2.2.1.1) rfl (by decide) (Nat.le_of_ble_eq_true rfl) (Day_howIs hT2.2.1 ht) rfl (st1 := [.int (till hl rv t 400 r (21 + t))]) rfl ?_
  refine x_iconst dX0_whenMended_24 ki_3 ?_
  refine x_icmp_ne (x := till hl rv t 400 r (21 + t)) (y := nI 3) (tgt := 43) dX0_whenMended_25 (by decide) (fun c25 => ?_) (fun c25 => ?_)
  · refine x_bipush dX0_whenMended_43 kb_m2 ?_
    exact x_iret dX0_whenMended_45 rfl (xEx_i (hl, till hl rv t 400 r, G2) hT2 (by unfold doneS; rw [if_neg (show ¬ _ = (3 : Int32) from c25)]) rfl rfl)
  · refine x_aload_n dX0_whenMended_28 0 rfl ?_
    refine x_get dX0_whenMended_29 fX0_20 (hT2.1) rfl ?_
    refine x_get dX0_whenMended_32 fX0_46 (hT2.2.1.1) rfl ?_
    refine x_bipush dX0_whenMended_35 kb_28 ?_
    refine x_iload_n dX0_whenMended_37 1 rfl ?_
    refine x_pc (pc' := 38) rfl ?_
    refine x_iaddN dX0_whenMended_38 ?_
    refine x_ialdN dX0_whenMended_39 (hT2.2.1.2.2) (by omega) (by decide) ?_
    refine x_goto (tgt := 45) dX0_whenMended_40 (by decide) ?_
    exact x_iret dX0_whenMended_45 rfl (xEx_i (hl, till hl rv t 400 r, G2) hT2 (by unfold doneS; rw [if_pos (show _ = (3 : Int32) from c25)]) rfl rfl)
theorem Asks_mtt_loop {K : xG} {h x t : Nat} {G0 : xHp} {hl : xHl} {ru : Option Nat} {rv : Option (List Nat)} {ch mo W : Int32} (hR : RuleIn G0 ru rv (x + 51)) (hO : HallOk hl) (ht : t < 7) : ∀ (i k : Nat) (rk : xRw) (G1 : xHp), k + i = 400 → wtF hl rv t i rk = W → RowOk hl rk → TrW G0 G1 x hl rk ru ch mo → xV K mX0_minutesTillTaken 4 0 0 h G1 13 [(2, .int (nI k)), (0, .ref (x + 36)), (1, .int (nI t))] [] (xEx (fun e : xHl × xRw × xHp => TrW G0 e.2.2 x e.1 e.2.1 ru ch mo) (fun _ => some (.int (W))) (fun _ => h) (fun e => e.2.2)) := by
  intro i
  induction i with
  | zero =>
    intro k rk G1 hv hr hok hT1
    refine x_iload_n dX0_minutesTillTaken_13 0 rfl ?_
    refine x_sipush dX0_minutesTillTaken_14 ks_400 ?_
    refine x_icmpN_ge (tgt := 69) dX0_minutesTillTaken_17 (by decide) (by omega) (by omega) (fun c17 => ?_) (fun c17 => ?_)
    · refine x_bipush dX0_minutesTillTaken_69 kb_m2 ?_
      exact x_iret dX0_minutesTillTaken_71 rfl (xEx_i (hl, rk, G1) hT1 (by rw [← hr]; rfl) rfl rfl)
    · exact absurd c17 (by omega)
  | succ i ih =>
    intro k rk G1 hv hr hok hT1
    refine x_iload_n dX0_minutesTillTaken_13 0 rfl ?_
    refine x_sipush dX0_minutesTillTaken_14 ks_400 ?_
    refine x_icmpN_ge (tgt := 69) dX0_minutesTillTaken_17 (by decide) (by omega) (by omega) (fun c17 => ?_) (fun c17 => ?_)
    · exact absurd c17 (by omega)
    · refine x_aload_n dX0_minutesTillTaken_20 1 rfl ?_
      refine x_get dX0_minutesTillTaken_21 fX0_20 (hT1.1) rfl ?_
      refine x_cVe (N := mX2_goOn) (d' := 3) (mc := 0) (ms := 0) (cb := 0) (sb := 0) (As := []) (st := []) dX0_minutesTillTaken_24 mX2_goOn_v lX0_50 rfl rfl (hT1.2.1.1) rfl (by decide) (Nat.le_of_ble_eq_true rfl) (Tr_goOn hT1 hR hO hok) rfl (sf := fun G2 => [.int ((goMin hl rv rk).2)]) (fun _ => rfl) (fun G2 hT2 => ?_)
      refine x_pop dX0_minutesTillTaken_27 rfl ?_
      refine x_aload_n dX0_minutesTillTaken_28 1 rfl ?_
      refine x_get dX0_minutesTillTaken_29 fX0_20 (hT2.1) rfl ?_
      refine x_pc (pc' := 32) rfl ?_
      refine x_iload_n dX0_minutesTillTaken_32 2 rfl ?_
      refine x_cV (N := mX2_howIs) (d' := 0) (mc := 0) (ms := 0) (cb := 0) (sb := 0) (As := [.int (nI t)]) (st := []) dX0_minutesTillTaken_33 mX2_howIs_v lX0_42 rfl rfl (hT2.2.1.1) rfl (by decide) (Nat.le_of_ble_eq_true rfl) (Day_howIs hT2.2.1 ht) rfl (st1 := [.int ((goMin hl rv rk).1 (21 + t))]) rfl ?_
      refine x_iconst dX0_minutesTillTaken_36 ki_1 ?_
      refine x_icmp_le (x := (goMin hl rv rk).1 (21 + t)) (y := nI 1) (tgt := 63) dX0_minutesTillTaken_37 (by decide) (fun c37 => ?_) (fun c37 => ?_)
      · refine x_iinc (v := nI (k + 1)) (ls' := [(2, .int (nI (k + 1))), (0, .ref (x + 36)), (1, .int (nI t))]) dX0_minutesTillTaken_63 0 rfl (nIs _) (by decide) rfl ?_
        refine x_goto (tgt := 13) dX0_minutesTillTaken_66 (by decide) ?_
        exact ih (k + 1) _ G2 (by omega) ((if_neg (Int32.not_lt.mpr c37)).symm.trans hr) (goMin_ok hO hok) hT2
      · refine x_aload_n dX0_minutesTillTaken_40 1 rfl ?_
        refine x_get dX0_minutesTillTaken_41 fX0_20 (hT2.1) rfl ?_
        refine x_cV (N := mX2_minuteNow) (d' := 0) (mc := 0) (ms := 0) (cb := 0) (sb := 0) (As := []) (st := []) dX0_minutesTillTaken_44 mX2_minuteNow_v lX0_54 rfl rfl (hT2.2.1.1) rfl (by decide) (Nat.le_of_ble_eq_true rfl) (Day_minuteNow hT2.2.1) rfl (st1 := [.int ((goMin hl rv rk).1 0)]) rfl ?_
        refine x_iconst dX0_minutesTillTaken_47 ki_1 ?_
        refine x_isub dX0_minutesTillTaken_48 ?_
        refine x_aload_n dX0_minutesTillTaken_49 1 rfl ?_
        refine x_pc (pc' := 50) rfl ?_
        refine x_get dX0_minutesTillTaken_50 fX0_20 (hT2.1) rfl ?_
        refine x_get dX0_minutesTillTaken_53 fX0_57 (hT2.2.1.1) rfl ?_
        refine x_get dX0_minutesTillTaken_56 fX0_61 (hT2.2.1.2.1.1) rfl ?_
        refine x_iload_n dX0_minutesTillTaken_59 2 rfl ?_
        refine x_ialdN dX0_minutesTillTaken_60 (hT2.2.1.2.1.2.2.2.2.2.1) (by omega) (by decide) ?_
        refine x_isub dX0_minutesTillTaken_61 ?_
        exact x_iret dX0_minutesTillTaken_62 rfl (xEx_i (hl, (goMin hl rv rk).1, G2) hT2 (by rw [← hr]; simp only [wtF]; rw [if_pos (Int32.not_le.mp c37)]) rfl rfl)
theorem Asks_minutesTillTaken {K : xG} {h x : Nat} {G0 G : xHp} {hl : xHl} {r : xRw} {ru : Option Nat} {rv : Option (List Nat)}{hk : xHl} {rk : xRw} {rt : Option Nat} {ch mo : Int32} {t : Nat} (hN : DayAt G0 (x + 26) hl r (x + 16) ru) (hT : TrW G0 G x hk rk rt ch mo) (hR : RuleIn G0 ru rv (x + 51)) (hO : HallOk hl) (hrow : RowOk hl r) (ht : t < 7) : xCall K mX0_minutesTillTaken 4 0 0 [.ref (x + 36), .int (nI t)] h G (xEx (fun e : xHl × xRw × xHp => TrW G0 e.2.2 x e.1 e.2.1 ru ch mo) (fun _ => some (.int (wtF hl rv t 400 r))) (fun _ => h) (fun e => e.2.2)) := by
  refine x_entry (by decide) (ls := [(0, .ref (x + 36)), (1, .int (nI t))]) rfl (Nat.le_of_ble_eq_true rfl) ?_
  have hNz := hT.now hN
  refine x_aload_n dX0_minutesTillTaken_0 0 rfl ?_
  refine x_get dX0_minutesTillTaken_1 fX0_20 (hT.1) rfl ?_
  refine x_aload_n dX0_minutesTillTaken_4 0 rfl ?_
  refine x_get dX0_minutesTillTaken_5 fX0_9 (hT.1) rfl ?_
  refine x_cVe (N := mX2_copy) (d' := 2) (mc := 0) (ms := 0) (cb := 0) (sb := 0) (As := [.ref (x + 26)]) (st := []) dX0_minutesTillTaken_8 mX2_copy_v lX0_32 rfl rfl (hT.2.1.1) rfl (by decide) (Nat.le_of_ble_eq_true rfl) (Tr_copy hN hT) rfl (sf := fun G1 => []) (fun _ => rfl) (fun G1 hT1 => ?_)
  have hN1 := hT1.now hN
  refine x_iconst dX0_minutesTillTaken_11 ki_0 ?_
  refine x_istore_n (ls' := [(2, .int (nI 0)), (0, .ref (x + 36)), (1, .int (nI t))]) dX0_minutesTillTaken_12 (by decide) rfl ?_
  exact Asks_mtt_loop hR hO ht 400 0 r G1 (by omega) rfl hrow hT1
