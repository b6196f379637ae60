theorem Day_goFar_loop {K : xG} {h b j n : Nat} {G : xHp} {hl : xHl} {r : xRw} {ru : Option Nat} {rv : Option (List Nat)} {wd sk : Nat → Int64} (hD : DayAt G b hl r j ru) (hJ : JudgeAt G j wd sk) (hV : RvAt G ru rv b j) (hO : HallOk hl) (hne : j + 3 ≤ b ∨ b + 10 ≤ j) (hrow : RowOk hl r) (hn : n < 100000) : ∀ (i k : Nat) (wx sx : Nat → Int64), k + i = n → xV K mX2_goFar 4 0 0 h (xup (xup (xup G (b + 9) (eI 0 35 (goN hl rv r k))) (j + 1) (eJ 12 wx)) (j + 2) (eJ 32 sx)) 2 [(2, .int (nI k)), (0, .ref b), (1, .int (nI n))] [] (xEx (fun e : Nat × (Nat → Int64) × (Nat → Int64) => e.1 ≤ n ∧ (e.1 = n ∨ overB hl (goN hl rv r e.1) = true)) (fun _ => none) (fun _ => h) (fun e => dayG G b j (goN hl rv r e.1) e.2.1 e.2.2)) := by
  intro i
  induction i with
  | zero =>
    intro k wx sx hv
    refine x_iload_n dX2_goFar_2 0 rfl ?_
    refine x_iload_n dX2_goFar_3 2 rfl ?_
    refine x_icmpN_ge (tgt := 25) dX2_goFar_4 (by decide) (by omega) (by omega) (fun c4 => ?_) (fun c4 => ?_)
    · exact x_vret dX2_goFar_25 rfl (xEx_i (k, wx, sx) ⟨by omega, Or.inl (by omega)⟩ rfl rfl rfl)
    · exact absurd c4 (by omega)
  | succ i ih =>
    intro k wx sx hv
    refine x_iload_n dX2_goFar_2 0 rfl ?_
    refine x_iload_n dX2_goFar_3 2 rfl ?_
    refine x_icmpN_ge (tgt := 25) dX2_goFar_4 (by decide) (by omega) (by omega) (fun c4 => ?_) (fun c4 => ?_)
    · exact absurd c4 (by omega)
    · refine x_aload_n dX2_goFar_7 1 rfl ?_
      refine x_cV (N := mX2_isOver) (d' := 0) (mc := 0) (ms := 0) (cb := 0) (sb := 0) (As := []) (st := []) dX2_goFar_8 mX2_isOver_v lX2_109 rfl rfl (xup_of (by omega) (xup_of (by omega) (xup_of (by omega) (hD.1)))) rfl (by decide) (Nat.le_of_ble_eq_true rfl) (Day_isOver (hD.go hne) hO) rfl (st1 := [.int (bI (overB hl (goN hl rv r k)))]) rfl ?_
      refine x_ifB_ne (tgt := 25) dX2_goFar_11 (by decide) (fun c11 => ?_) (fun c11 => ?_)
      · exact x_vret dX2_goFar_25 rfl (xEx_i (k, wx, sx) ⟨by show k ≤ n; omega, Or.inr c11⟩ rfl rfl rfl)
      · refine x_aload_n dX2_goFar_14 1 rfl ?_
        refine x_cVe (N := mX2_goOn) (d' := 3) (mc := 0) (ms := 0) (cb := 0) (sb := 0) (As := []) (st := []) dX2_goFar_15 mX2_goOn_v lX2_112 rfl rfl (xup_of (by omega) (xup_of (by omega) (xup_of (by omega) (hD.1)))) rfl (by decide) (Nat.le_of_ble_eq_true rfl) (Day_goOn (hD.go hne) (hJ.go hne) hV.go hO hne (goN_ok hO hrow k)) rfl (sf := fun e1 => [.int ((goMin hl rv (goN hl rv r k)).2)]) (fun _ => rfl) (fun e1 _ => ?_)
        refine x_geq (dayG_2 hne) ?_
        refine x_pop dX2_goFar_18 rfl ?_
        refine x_pc (pc' := 19) rfl ?_
        refine x_iinc (v := nI (k + 1)) (ls' := [(2, .int (nI (k + 1))), (0, .ref b), (1, .int (nI n))]) dX2_goFar_19 0 rfl (nIs _) (by decide) rfl ?_
        refine x_goto (tgt := 2) dX2_goFar_22 (by decide) ?_
        exact ih (k + 1) e1.1 e1.2 (by omega)
theorem Day_goFar {K : xG} {h b j n : Nat} {G : xHp} {hl : xHl} {r : xRw} {ru : Option Nat} {rv : Option (List Nat)} {wd sk : Nat → Int64} (hD : DayAt G b hl r j ru) (hJ : JudgeAt G j wd sk) (hV : RvAt G ru rv b j) (hO : HallOk hl) (hne : j + 3 ≤ b ∨ b + 10 ≤ j) (hrow : RowOk hl r) (hn : n < 100000) : xCall K mX2_goFar 4 0 0 [.ref b, .int (nI n)] h G (xEx (fun e : Nat × (Nat → Int64) × (Nat → Int64) => e.1 ≤ n ∧ (e.1 = n ∨ overB hl (goN hl rv r e.1) = true)) (fun _ => none) (fun _ => h) (fun e => dayG G b j (goN hl rv r e.1) e.2.1 e.2.2)) := by
  refine x_entry (by decide) (ls := [(0, .ref b), (1, .int (nI n))]) rfl (Nat.le_of_ble_eq_true rfl) ?_
  refine x_iconst dX2_goFar_0 ki_0 ?_
  refine x_istore_n (ls' := [(2, .int (nI 0)), (0, .ref b), (1, .int (nI n))]) dX2_goFar_1 (by decide) rfl ?_
  refine x_geq (show G = dayG G b j (goN hl rv r 0) wd sk from by show G = xup (xup (xup G (b + 9) (eI 0 35 r)) (j + 1) (eJ 12 wd)) (j + 2) (eJ 32 sk); rw [xup_same hD.2.2, xup_same (a := j + 1) hJ.2.1, xup_same hJ.2.2]) ?_
  exact Day_goFar_loop hD hJ hV hO hne hrow hn n 0 wd sk (by omega)
