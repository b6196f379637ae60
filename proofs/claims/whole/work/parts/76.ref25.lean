theorem Md_isDigit_i {K : xG} {h y : Nat} {G0 G : xHp} {hl : xHl} {r : xRw} {sc : Nat × Nat × Int32} {A : Nat → Nat → Int32} {F : Nat → Int32} {wa sa : Nat → Int64} {tn p f sl en de co op : Nat} {tp : Nat → Nat} (hT : ∀ j, j < 400 → A 27 j &&& nI 255 = nI (tp j)) (hlt : ∀ j, tp j < 256) (htn : tn ≤ 400) (hM : MW G0 G y hl r sc A (pF F tn p f sl en de co op) wa sa) (hp : p < tn) : xCall K mX12_isDigit 1 0 0 [.ref y] h G (xRet (some (.int (bI (isDg tp p)))) h G) := by
  refine x_entry (by decide) (ls := [(0, .ref y)]) rfl (Nat.le_of_ble_eq_true rfl) ?_
  refine x_aload_n dX12_isDigit_0 0 rfl ?_
  refine x_cV (N := mX12_sign) (d' := 0) (mc := 0) (ms := 0) (cb := 0) (sb := 0) (As := []) (st := []) dX12_isDigit_1 mX12_sign_v lX12_193 rfl rfl (hM.1) rfl (by decide) (Nat.le_of_ble_eq_true rfl) (Md_sign_i hM hT htn hp) rfl (st1 := [.int (nI (tp p))]) rfl ?_
  refine x_i2l dX12_isDigit_4 ?_
  refine x_ldc2 dX12_isDigit_5 cX12_197 ?_
  refine x_ldc2 dX12_isDigit_8 cX12_199 ?_
  refine x_cS (N := mX12_in) (d' := 0) (mc := 0) (ms := 0) (cb := 0) (sb := 0) (As := [.long ((nI (tp p)).toInt64), .long (48 : Int64), .long (57 : Int64)]) (st := []) dX12_isDigit_11 mX12_in_s lX12_155 rfl (by decide) (Nat.le_of_ble_eq_true rfl) (Md_in) rfl (st1 := [.int (bI (decide ((48 : Int64) ≤ (nI (tp p)).toInt64 ∧ (nI (tp p)).toInt64 ≤ (57 : Int64))))]) rfl ?_
  exact x_zret dX12_isDigit_14 rfl (by first | rfl | decide | exact bI_nar _) (xRet_e (by rw [in_dg (hlt p)]; rfl) rfl)
theorem Md_isDigit_o {K : xG} {h y : Nat} {G0 G : xHp} {hl : xHl} {r : xRw} {sc : Nat × Nat × Int32} {A : Nat → Nat → Int32} {F : Nat → Int32} {wa sa : Nat → Int64} {tn p f sl en de co op : Nat} (hM : MW G0 G y hl r sc A (pF F tn p f sl en de co op) wa sa) (htn : tn ≤ 400) (hp : tn ≤ p) (hp9 : p < 100000) : xCall K mX12_isDigit 1 0 0 [.ref y] h G (xRet (some (.int (bI false))) h G) := by
  refine x_entry (by decide) (ls := [(0, .ref y)]) rfl (Nat.le_of_ble_eq_true rfl) ?_
  refine x_aload_n dX12_isDigit_0 0 rfl ?_
  refine x_cV (N := mX12_sign) (d' := 0) (mc := 0) (ms := 0) (cb := 0) (sb := 0) (As := []) (st := []) dX12_isDigit_1 mX12_sign_v lX12_193 rfl rfl (hM.1) rfl (by decide) (Nat.le_of_ble_eq_true rfl) (Md_sign_o hM htn hp hp9) rfl (st1 := [.int (-1)]) rfl ?_
  refine x_i2l dX12_isDigit_4 ?_
  refine x_ldc2 dX12_isDigit_5 cX12_197 ?_
  refine x_ldc2 dX12_isDigit_8 cX12_199 ?_
  refine x_cS (N := mX12_in) (d' := 0) (mc := 0) (ms := 0) (cb := 0) (sb := 0) (As := [.long ((-1).toInt64), .long (48 : Int64), .long (57 : Int64)]) (st := []) dX12_isDigit_11 mX12_in_s lX12_155 rfl (by decide) (Nat.le_of_ble_eq_true rfl) (Md_in) rfl (st1 := [.int (bI (decide ((48 : Int64) ≤ (-1).toInt64 ∧ (-1).toInt64 ≤ (57 : Int64))))]) rfl ?_
  exact x_zret dX12_isDigit_14 rfl (by first | rfl | decide | exact bI_nar _) (xRet_e (by decide) rfl)
