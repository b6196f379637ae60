theorem Md_carry40 {K : xG} {h y : Nat} {G0 G : xHp} {X : Nat → Nat → Int32} {F : Nat → Int32} {wa sa : Nat → Int64} (hR : RW G0 G y X F wa sa) : xCall K mX12_carriesAll 1 0 0 [.ref y, .int (nI 4), .int (nI 0)] h G (rwQ G0 h y (setA X 44 (svI X 3600 9)) (cF F 0 3650) wa sa) := by
  refine x_entry (by decide) (ls := [(0, .ref y), (1, .int (nI 4)), (2, .int (nI 0))]) rfl (Nat.le_of_ble_eq_true rfl) ?_
  refine x_aload_n dX12_carriesAll_0 0 rfl ?_
  refine x_sipush dX12_carriesAll_1 ks_900 ?_
  refine x_iload_n dX12_carriesAll_4 1 rfl ?_
  refine x_imulN dX12_carriesAll_5 ?_
  refine x_put (fs' := [.int (F 0), .ref (y + 1), .ref (y + 2), .ref (y + 3), .ref (y + 4), .ref (y + 5), .ref (y + 6), .ref (y + 7), .ref (y + 8), .ref (y + 9), .ref (y + 10), .ref (y + 11), .ref (y + 12), .ref (y + 13), .ref (y + 14), .ref (y + 15), .ref (y + 16), .ref (y + 17), .ref (y + 18), .ref (y + 19), .ref (y + 20), .ref (y + 21), .ref (y + 22), .ref (y + 23), .ref (y + 24), .ref (y + 25), .ref (y + 26), .int (F 27), .int (F 28), .int (F 29), .int (F 30), .int (F 31), .int (F 32), .int (F 33), .int (F 34), .int (F 35), .int (F 36), .ref (y + 27), .ref (y + 28), .ref (y + 29), .ref (y + 30), .ref (y + 31), .ref (y + 32), .ref (y + 33), .ref (y + 34), .ref (y + 35), .ref (y + 36), .ref (y + 37), .ref (y + 38), .int (F 49), .int (F 50), .int (F 51), .int (F 52), .int (F 53), .ref (y + 39), .ref (y + 40), .ref (y + 41), .int (F 57), .int (F 58), .ref (y + 42), .ref (y + 43), .ref (y + 44), .ref (y + 45), .int (nI 3600), .int (F 64)]) dX12_carriesAll_6 fX12_509 (hR.1) (Nat.le_of_ble_eq_true rfl) rfl rfl rfl ?_
  refine x_geq (G' := xup _ y (modO y (upd F 63 (nI 3600)))) rfl ?_
  refine x_gen (P := fun G' => RW G0 G' y X (upd F 63 (nI 3600)) wa sa) (hR.fld (upd F 63 (nI 3600))) (fun G1 hR1 => ?_)
  refine x_aload_n dX12_carriesAll_9 0 rfl ?_
  refine x_iload_n dX12_carriesAll_10 2 rfl ?_
  refine x_put (fs' := [.int (F 0), .ref (y + 1), .ref (y + 2), .ref (y + 3), .ref (y + 4), .ref (y + 5), .ref (y + 6), .ref (y + 7), .ref (y + 8), .ref (y + 9), .ref (y + 10), .ref (y + 11), .ref (y + 12), .ref (y + 13), .ref (y + 14), .ref (y + 15), .ref (y + 16), .ref (y + 17), .ref (y + 18), .ref (y + 19), .ref (y + 20), .ref (y + 21), .ref (y + 22), .ref (y + 23), .ref (y + 24), .ref (y + 25), .ref (y + 26), .int (F 27), .int (F 28), .int (F 29), .int (F 30), .int (F 31), .int (F 32), .int (F 33), .int (F 34), .int (F 35), .int (F 36), .ref (y + 27), .ref (y + 28), .ref (y + 29), .ref (y + 30), .ref (y + 31), .ref (y + 32), .ref (y + 33), .ref (y + 34), .ref (y + 35), .ref (y + 36), .ref (y + 37), .ref (y + 38), .int (F 49), .int (F 50), .int (F 51), .int (F 52), .int (F 53), .ref (y + 39), .ref (y + 40), .ref (y + 41), .int (F 57), .int (F 58), .ref (y + 42), .ref (y + 43), .ref (y + 44), .ref (y + 45), .int (nI 3600), .int (nI 0)]) dX12_carriesAll_11 fX12_506 (hR1.1) (Nat.le_of_ble_eq_true rfl) rfl (by first | rfl | decide | exact bI_nar _) (by first | rfl | decide | exact bI_fit _) ?_
  refine x_geq (G' := xup _ y (modO y (cF F 0 3600))) rfl ?_
  refine x_gen (P := fun G' => RW G0 G' y X (cF F 0 3600) wa sa) (hR1.fld (cF F 0 3600)) (fun G2 hR2 => ?_)
  refine x_aload_n dX12_carriesAll_14 0 rfl ?_
  refine x_pc (pc' := 15) rfl ?_
  refine x_aload_n dX12_carriesAll_15 0 rfl ?_
  refine x_get (v := .ref (y + 1)) dX12_carriesAll_16 fX12_9 (hR2.1) rfl ?_
  refine x_cV (N := mX12_carryRow) (d' := 0) (mc := 0) (ms := 0) (cb := 0) (sb := 0) (As := [.ref (y + 1)]) (st := []) dX12_carriesAll_19 mX12_carryRow_v lX12_512 rfl rfl (hR2.1) rfl (by decide) (Nat.le_of_ble_eq_true rfl) (Md_save (F := F) (b := y + 1) (pp := 3600) (n := 9) (im := X 44) (f := X 1) (hR2.1) (hR2.cell (k := 44) (by decide) (by decide) (by decide) (by decide) (by decide) (by decide)) (hR2.cell (k := 1) (by decide) (by decide) (by decide) (by decide) (by decide) (by decide)) (by omega) (by omega) (by omega)) rfl (st1 := []) rfl ?_
  refine x_gen (P := fun G' => RW G0 G' y (setA X 44 (svI X 3600 1)) (cF F 0 (3600 + 9)) wa sa) (by have e := (hR2.fld (cF F 0 (3600 + 9))).arr (k := 44) (by decide) (by decide) (by decide) (by decide) (by decide) (by decide) (layF (X 44) (X 1) (3600) 9); exact e) (fun G3 hR3 => ?_)
  refine x_aload_n dX12_carriesAll_22 0 rfl ?_
  refine x_aload_n dX12_carriesAll_23 0 rfl ?_
  refine x_get (v := .ref (y + 3)) dX12_carriesAll_24 fX12_16 (hR3.1) rfl ?_
  refine x_cV (N := mX12_carryRow) (d' := 0) (mc := 0) (ms := 0) (cb := 0) (sb := 0) (As := [.ref (y + 3)]) (st := []) dX12_carriesAll_27 mX12_carryRow_v lX12_512 rfl rfl (hR3.1) rfl (by decide) (Nat.le_of_ble_eq_true rfl) (Md_save (F := F) (b := y + 3) (pp := 3600 + 9) (n := 4) (im := (setA X 44 (svI X 3600 1)) 44) (f := (setA X 44 (svI X 3600 1)) 3) (hR3.1) (hR3.cell (k := 44) (by decide) (by decide) (by decide) (by decide) (by decide) (by decide)) (hR3.cell (k := 3) (by decide) (by decide) (by decide) (by decide) (by decide) (by decide)) (by omega) (by omega) (by omega)) rfl (st1 := []) rfl ?_
  refine x_gen (P := fun G' => RW G0 G' y (setA X 44 (svI X 3600 2)) (cF F 0 (3600 + 13)) wa sa) (by have e := (hR3.fld (cF F 0 (3600 + 13))).arr (k := 44) (by decide) (by decide) (by decide) (by decide) (by decide) (by decide) (layF ((setA X 44 (svI X 3600 1)) 44) ((setA X 44 (svI X 3600 1)) 3) (3600 + 9) 4); rw [setA_up] at e; exact e) (fun G4 hR4 => ?_)
  refine x_aload_n dX12_carriesAll_30 0 rfl ?_
  refine x_aload_n dX12_carriesAll_31 0 rfl ?_
  refine x_get (v := .ref (y + 5)) dX12_carriesAll_32 fX12_22 (hR4.1) rfl ?_
  refine x_pc (pc' := 35) rfl ?_
  refine x_cV (N := mX12_carryRow) (d' := 0) (mc := 0) (ms := 0) (cb := 0) (sb := 0) (As := [.ref (y + 5)]) (st := []) dX12_carriesAll_35 mX12_carryRow_v lX12_512 rfl rfl (hR4.1) rfl (by decide) (Nat.le_of_ble_eq_true rfl) (Md_save (F := F) (b := y + 5) (pp := 3600 + 13) (n := 4) (im := (setA X 44 (svI X 3600 2)) 44) (f := (setA X 44 (svI X 3600 2)) 5) (hR4.1) (hR4.cell (k := 44) (by decide) (by decide) (by decide) (by decide) (by decide) (by decide)) (hR4.cell (k := 5) (by decide) (by decide) (by decide) (by decide) (by decide) (by decide)) (by omega) (by omega) (by omega)) rfl (st1 := []) rfl ?_
  refine x_gen (P := fun G' => RW G0 G' y (setA X 44 (svI X 3600 3)) (cF F 0 (3600 + 17)) wa sa) (by have e := (hR4.fld (cF F 0 (3600 + 17))).arr (k := 44) (by decide) (by decide) (by decide) (by decide) (by decide) (by decide) (layF ((setA X 44 (svI X 3600 2)) 44) ((setA X 44 (svI X 3600 2)) 5) (3600 + 13) 4); rw [setA_up] at e; exact e) (fun G5 hR5 => ?_)
  refine x_aload_n dX12_carriesAll_38 0 rfl ?_
  refine x_aload_n dX12_carriesAll_39 0 rfl ?_
  refine x_get (v := .ref (y + 6)) dX12_carriesAll_40 fX12_25 (hR5.1) rfl ?_
  refine x_cV (N := mX12_carryRow) (d' := 0) (mc := 0) (ms := 0) (cb := 0) (sb := 0) (As := [.ref (y + 6)]) (st := []) dX12_carriesAll_43 mX12_carryRow_v lX12_512 rfl rfl (hR5.1) rfl (by decide) (Nat.le_of_ble_eq_true rfl) (Md_save (F := F) (b := y + 6) (pp := 3600 + 17) (n := 4) (im := (setA X 44 (svI X 3600 3)) 44) (f := (setA X 44 (svI X 3600 3)) 6) (hR5.1) (hR5.cell (k := 44) (by decide) (by decide) (by decide) (by decide) (by decide) (by decide)) (hR5.cell (k := 6) (by decide) (by decide) (by decide) (by decide) (by decide) (by decide)) (by omega) (by omega) (by omega)) rfl (st1 := []) rfl ?_
  refine x_gen (P := fun G' => RW G0 G' y (setA X 44 (svI X 3600 4)) (cF F 0 (3600 + 21)) wa sa) (by have e := (hR5.fld (cF F 0 (3600 + 21))).arr (k := 44) (by decide) (by decide) (by decide) (by decide) (by decide) (by decide) (layF ((setA X 44 (svI X 3600 3)) 44) ((setA X 44 (svI X 3600 3)) 6) (3600 + 17) 4); rw [setA_up] at e; exact e) (fun G6 hR6 => ?_)
  refine x_aload_n dX12_carriesAll_46 0 rfl ?_
  refine x_aload_n dX12_carriesAll_47 0 rfl ?_
  refine x_get (v := .ref (y + 7)) dX12_carriesAll_48 fX12_28 (hR6.1) rfl ?_
  refine x_cV (N := mX12_carryRow) (d' := 0) (mc := 0) (ms := 0) (cb := 0) (sb := 0) (As := [.ref (y + 7)]) (st := []) dX12_carriesAll_51 mX12_carryRow_v lX12_512 rfl rfl (hR6.1) rfl (by decide) (Nat.le_of_ble_eq_true rfl) (Md_save (F := F) (b := y + 7) (pp := 3600 + 21) (n := 4) (im := (setA X 44 (svI X 3600 4)) 44) (f := (setA X 44 (svI X 3600 4)) 7) (hR6.1) (hR6.cell (k := 44) (by decide) (by decide) (by decide) (by decide) (by decide) (by decide)) (hR6.cell (k := 7) (by decide) (by decide) (by decide) (by decide) (by decide) (by decide)) (by omega) (by omega) (by omega)) rfl (st1 := []) rfl ?_
  refine x_gen (P := fun G' => RW G0 G' y (setA X 44 (svI X 3600 5)) (cF F 0 (3600 + 25)) wa sa) (by have e := (hR6.fld (cF F 0 (3600 + 25))).arr (k := 44) (by decide) (by decide) (by decide) (by decide) (by decide) (by decide) (layF ((setA X 44 (svI X 3600 4)) 44) ((setA X 44 (svI X 3600 4)) 7) (3600 + 21) 4); rw [setA_up] at e; exact e) (fun G7 hR7 => ?_)
  refine x_aload_n dX12_carriesAll_54 0 rfl ?_
  refine x_pc (pc' := 55) rfl ?_
  refine x_aload_n dX12_carriesAll_55 0 rfl ?_
  refine x_get (v := .ref (y + 8)) dX12_carriesAll_56 fX12_31 (hR7.1) rfl ?_
  refine x_cV (N := mX12_carryRow) (d' := 0) (mc := 0) (ms := 0) (cb := 0) (sb := 0) (As := [.ref (y + 8)]) (st := []) dX12_carriesAll_59 mX12_carryRow_v lX12_512 rfl rfl (hR7.1) rfl (by decide) (Nat.le_of_ble_eq_true rfl) (Md_save (F := F) (b := y + 8) (pp := 3600 + 25) (n := 4) (im := (setA X 44 (svI X 3600 5)) 44) (f := (setA X 44 (svI X 3600 5)) 8) (hR7.1) (hR7.cell (k := 44) (by decide) (by decide) (by decide) (by decide) (by decide) (by decide)) (hR7.cell (k := 8) (by decide) (by decide) (by decide) (by decide) (by decide) (by decide)) (by omega) (by omega) (by omega)) rfl (st1 := []) rfl ?_
  refine x_gen (P := fun G' => RW G0 G' y (setA X 44 (svI X 3600 6)) (cF F 0 (3600 + 29)) wa sa) (by have e := (hR7.fld (cF F 0 (3600 + 29))).arr (k := 44) (by decide) (by decide) (by decide) (by decide) (by decide) (by decide) (layF ((setA X 44 (svI X 3600 5)) 44) ((setA X 44 (svI X 3600 5)) 8) (3600 + 25) 4); rw [setA_up] at e; exact e) (fun G8 hR8 => ?_)
  refine x_aload_n dX12_carriesAll_62 0 rfl ?_
  refine x_aload_n dX12_carriesAll_63 0 rfl ?_
  refine x_get (v := .ref (y + 13)) dX12_carriesAll_64 fX12_46 (hR8.1) rfl ?_
  refine x_cV (N := mX12_carryRow) (d' := 0) (mc := 0) (ms := 0) (cb := 0) (sb := 0) (As := [.ref (y + 13)]) (st := []) dX12_carriesAll_67 mX12_carryRow_v lX12_512 rfl rfl (hR8.1) rfl (by decide) (Nat.le_of_ble_eq_true rfl) (Md_save (F := F) (b := y + 13) (pp := 3600 + 29) (n := 7) (im := (setA X 44 (svI X 3600 6)) 44) (f := (setA X 44 (svI X 3600 6)) 13) (hR8.1) (hR8.cell (k := 44) (by decide) (by decide) (by decide) (by decide) (by decide) (by decide)) (hR8.cell (k := 13) (by decide) (by decide) (by decide) (by decide) (by decide) (by decide)) (by omega) (by omega) (by omega)) rfl (st1 := []) rfl ?_
  refine x_gen (P := fun G' => RW G0 G' y (setA X 44 (svI X 3600 7)) (cF F 0 (3600 + 36)) wa sa) (by have e := (hR8.fld (cF F 0 (3600 + 36))).arr (k := 44) (by decide) (by decide) (by decide) (by decide) (by decide) (by decide) (layF ((setA X 44 (svI X 3600 6)) 44) ((setA X 44 (svI X 3600 6)) 13) (3600 + 29) 7); rw [setA_up] at e; exact e) (fun G9 hR9 => ?_)
  refine x_aload_n dX12_carriesAll_70 0 rfl ?_
  refine x_aload_n dX12_carriesAll_71 0 rfl ?_
  refine x_get (v := .ref (y + 14)) dX12_carriesAll_72 fX12_49 (hR9.1) rfl ?_
  refine x_pc (pc' := 75) rfl ?_
  refine x_cV (N := mX12_carryRow) (d' := 0) (mc := 0) (ms := 0) (cb := 0) (sb := 0) (As := [.ref (y + 14)]) (st := []) dX12_carriesAll_75 mX12_carryRow_v lX12_512 rfl rfl (hR9.1) rfl (by decide) (Nat.le_of_ble_eq_true rfl) (Md_save (F := F) (b := y + 14) (pp := 3600 + 36) (n := 7) (im := (setA X 44 (svI X 3600 7)) 44) (f := (setA X 44 (svI X 3600 7)) 14) (hR9.1) (hR9.cell (k := 44) (by decide) (by decide) (by decide) (by decide) (by decide) (by decide)) (hR9.cell (k := 14) (by decide) (by decide) (by decide) (by decide) (by decide) (by decide)) (by omega) (by omega) (by omega)) rfl (st1 := []) rfl ?_
  refine x_gen (P := fun G' => RW G0 G' y (setA X 44 (svI X 3600 8)) (cF F 0 (3600 + 43)) wa sa) (by have e := (hR9.fld (cF F 0 (3600 + 43))).arr (k := 44) (by decide) (by decide) (by decide) (by decide) (by decide) (by decide) (layF ((setA X 44 (svI X 3600 7)) 44) ((setA X 44 (svI X 3600 7)) 14) (3600 + 36) 7); rw [setA_up] at e; exact e) (fun G10 hR10 => ?_)
  refine x_aload_n dX12_carriesAll_78 0 rfl ?_
  refine x_aload_n dX12_carriesAll_79 0 rfl ?_
  refine x_get (v := .ref (y + 10)) dX12_carriesAll_80 fX12_37 (hR10.1) rfl ?_
  refine x_cV (N := mX12_carryRow) (d' := 0) (mc := 0) (ms := 0) (cb := 0) (sb := 0) (As := [.ref (y + 10)]) (st := []) dX12_carriesAll_83 mX12_carryRow_v lX12_512 rfl rfl (hR10.1) rfl (by decide) (Nat.le_of_ble_eq_true rfl) (Md_save (F := F) (b := y + 10) (pp := 3600 + 43) (n := 7) (im := (setA X 44 (svI X 3600 8)) 44) (f := (setA X 44 (svI X 3600 8)) 10) (hR10.1) (hR10.cell (k := 44) (by decide) (by decide) (by decide) (by decide) (by decide) (by decide)) (hR10.cell (k := 10) (by decide) (by decide) (by decide) (by decide) (by decide) (by decide)) (by omega) (by omega) (by omega)) rfl (st1 := []) rfl ?_
  refine x_gen (P := fun G' => RW G0 G' y (setA X 44 (svI X 3600 9)) (cF F 0 (3600 + 50)) wa sa) (by have e := (hR10.fld (cF F 0 (3600 + 50))).arr (k := 44) (by decide) (by decide) (by decide) (by decide) (by decide) (by decide) (layF ((setA X 44 (svI X 3600 8)) 44) ((setA X 44 (svI X 3600 8)) 10) (3600 + 43) 7); rw [setA_up] at e; exact e) (fun G11 hR11 => ?_)
  refine x_iload_n dX12_carriesAll_86 1 rfl ?_
  refine x_iconst dX12_carriesAll_87 ki_4 ?_
  refine x_icmpN_ne (tgt := 92) dX12_carriesAll_88 (by decide) (by omega) (by omega) (fun c88 => ?_) (fun c88 => ?_)
  · exact absurd c88 (by decide)
  · exact x_vret dX12_carriesAll_91 rfl (xEx_i G11 hR11 rfl rfl rfl)
theorem Md_carry41 {K : xG} {h y : Nat} {G0 G : xHp} {X : Nat → Nat → Int32} {F : Nat → Int32} {wa sa : Nat → Int64} (hR : RW G0 G y X F wa sa) : xCall K mX12_carriesAll 1 0 0 [.ref y, .int (nI 4), .int (nI 1)] h G (rwQ G0 h y (ldX X 3600 9) (cF F 1 3650) wa sa) := by
  refine x_entry (by decide) (ls := [(0, .ref y), (1, .int (nI 4)), (2, .int (nI 1))]) rfl (Nat.le_of_ble_eq_true rfl) ?_
  refine x_aload_n dX12_carriesAll_0 0 rfl ?_
  refine x_sipush dX12_carriesAll_1 ks_900 ?_
  refine x_iload_n dX12_carriesAll_4 1 rfl ?_
  refine x_imulN dX12_carriesAll_5 ?_
  refine x_put (fs' := [.int (F 0), .ref (y + 1), .ref (y + 2), .ref (y + 3), .ref (y + 4), .ref (y + 5), .ref (y + 6), .ref (y + 7), .ref (y + 8), .ref (y + 9), .ref (y + 10), .ref (y + 11), .ref (y + 12), .ref (y + 13), .ref (y + 14), .ref (y + 15), .ref (y + 16), .ref (y + 17), .ref (y + 18), .ref (y + 19), .ref (y + 20), .ref (y + 21), .ref (y + 22), .ref (y + 23), .ref (y + 24), .ref (y + 25), .ref (y + 26), .int (F 27), .int (F 28), .int (F 29), .int (F 30), .int (F 31), .int (F 32), .int (F 33), .int (F 34), .int (F 35), .int (F 36), .ref (y + 27), .ref (y + 28), .ref (y + 29), .ref (y + 30), .ref (y + 31), .ref (y + 32), .ref (y + 33), .ref (y + 34), .ref (y + 35), .ref (y + 36), .ref (y + 37), .ref (y + 38), .int (F 49), .int (F 50), .int (F 51), .int (F 52), .int (F 53), .ref (y + 39), .ref (y + 40), .ref (y + 41), .int (F 57), .int (F 58), .ref (y + 42), .ref (y + 43), .ref (y + 44), .ref (y + 45), .int (nI 3600), .int (F 64)]) dX12_carriesAll_6 fX12_509 (hR.1) (Nat.le_of_ble_eq_true rfl) rfl rfl rfl ?_
  refine x_geq (G' := xup _ y (modO y (upd F 63 (nI 3600)))) rfl ?_
  refine x_gen (P := fun G' => RW G0 G' y X (upd F 63 (nI 3600)) wa sa) (hR.fld (upd F 63 (nI 3600))) (fun G1 hR1 => ?_)
  refine x_aload_n dX12_carriesAll_9 0 rfl ?_
  refine x_iload_n dX12_carriesAll_10 2 rfl ?_
  refine x_put (fs' := [.int (F 0), .ref (y + 1), .ref (y + 2), .ref (y + 3), .ref (y + 4), .ref (y + 5), .ref (y + 6), .ref (y + 7), .ref (y + 8), .ref (y + 9), .ref (y + 10), .ref (y + 11), .ref (y + 12), .ref (y + 13), .ref (y + 14), .ref (y + 15), .ref (y + 16), .ref (y + 17), .ref (y + 18), .ref (y + 19), .ref (y + 20), .ref (y + 21), .ref (y + 22), .ref (y + 23), .ref (y + 24), .ref (y + 25), .ref (y + 26), .int (F 27), .int (F 28), .int (F 29), .int (F 30), .int (F 31), .int (F 32), .int (F 33), .int (F 34), .int (F 35), .int (F 36), .ref (y + 27), .ref (y + 28), .ref (y + 29), .ref (y + 30), .ref (y + 31), .ref (y + 32), .ref (y + 33), .ref (y + 34), .ref (y + 35), .ref (y + 36), .ref (y + 37), .ref (y + 38), .int (F 49), .int (F 50), .int (F 51), .int (F 52), .int (F 53), .ref (y + 39), .ref (y + 40), .ref (y + 41), .int (F 57), .int (F 58), .ref (y + 42), .ref (y + 43), .ref (y + 44), .ref (y + 45), .int (nI 3600), .int (nI 1)]) dX12_carriesAll_11 fX12_506 (hR1.1) (Nat.le_of_ble_eq_true rfl) rfl (by first | rfl | decide | exact bI_nar _) (by first | rfl | decide | exact bI_fit _) ?_
  refine x_geq (G' := xup _ y (modO y (cF F 1 3600))) rfl ?_
  refine x_gen (P := fun G' => RW G0 G' y X (cF F 1 3600) wa sa) (hR1.fld (cF F 1 3600)) (fun G2 hR2 => ?_)
  refine x_aload_n dX12_carriesAll_14 0 rfl ?_
  refine x_pc (pc' := 15) rfl ?_
  refine x_aload_n dX12_carriesAll_15 0 rfl ?_
  refine x_get (v := .ref (y + 1)) dX12_carriesAll_16 fX12_9 (hR2.1) rfl ?_
  refine x_cV (N := mX12_carryRow) (d' := 0) (mc := 0) (ms := 0) (cb := 0) (sb := 0) (As := [.ref (y + 1)]) (st := []) dX12_carriesAll_19 mX12_carryRow_v lX12_512 rfl rfl (hR2.1) rfl (by decide) (Nat.le_of_ble_eq_true rfl) (Md_load (F := F) (b := y + 1) (pp := 3600) (n := 9) (im := X 44) (f := X 1) (hR2.1) (hR2.cell (k := 44) (by decide) (by decide) (by decide) (by decide) (by decide) (by decide)) (hR2.cell (k := 1) (by decide) (by decide) (by decide) (by decide) (by decide) (by decide)) (by omega) (by omega) (by omega)) rfl (st1 := []) rfl ?_
  refine x_gen (P := fun G' => RW G0 G' y (ldX X 3600 1) (cF F 1 (3600 + 9)) wa sa) ((hR2.fld (cF F 1 (3600 + 9))).arr (k := 1) (by decide) (by decide) (by decide) (by decide) (by decide) (by decide) (ldF (X 44) (X 1) (3600) 9)) (fun G3 hR3 => ?_)
  refine x_aload_n dX12_carriesAll_22 0 rfl ?_
  refine x_aload_n dX12_carriesAll_23 0 rfl ?_
  refine x_get (v := .ref (y + 3)) dX12_carriesAll_24 fX12_16 (hR3.1) rfl ?_
  refine x_cV (N := mX12_carryRow) (d' := 0) (mc := 0) (ms := 0) (cb := 0) (sb := 0) (As := [.ref (y + 3)]) (st := []) dX12_carriesAll_27 mX12_carryRow_v lX12_512 rfl rfl (hR3.1) rfl (by decide) (Nat.le_of_ble_eq_true rfl) (Md_load (F := F) (b := y + 3) (pp := 3600 + 9) (n := 4) (im := (ldX X 3600 1) 44) (f := (ldX X 3600 1) 3) (hR3.1) (hR3.cell (k := 44) (by decide) (by decide) (by decide) (by decide) (by decide) (by decide)) (hR3.cell (k := 3) (by decide) (by decide) (by decide) (by decide) (by decide) (by decide)) (by omega) (by omega) (by omega)) rfl (st1 := []) rfl ?_
  refine x_gen (P := fun G' => RW G0 G' y (ldX X 3600 2) (cF F 1 (3600 + 13)) wa sa) ((hR3.fld (cF F 1 (3600 + 13))).arr (k := 3) (by decide) (by decide) (by decide) (by decide) (by decide) (by decide) (ldF ((ldX X 3600 1) 44) ((ldX X 3600 1) 3) (3600 + 9) 4)) (fun G4 hR4 => ?_)
  refine x_aload_n dX12_carriesAll_30 0 rfl ?_
  refine x_aload_n dX12_carriesAll_31 0 rfl ?_
  refine x_get (v := .ref (y + 5)) dX12_carriesAll_32 fX12_22 (hR4.1) rfl ?_
  refine x_pc (pc' := 35) rfl ?_
  refine x_cV (N := mX12_carryRow) (d' := 0) (mc := 0) (ms := 0) (cb := 0) (sb := 0) (As := [.ref (y + 5)]) (st := []) dX12_carriesAll_35 mX12_carryRow_v lX12_512 rfl rfl (hR4.1) rfl (by decide) (Nat.le_of_ble_eq_true rfl) (Md_load (F := F) (b := y + 5) (pp := 3600 + 13) (n := 4) (im := (ldX X 3600 2) 44) (f := (ldX X 3600 2) 5) (hR4.1) (hR4.cell (k := 44) (by decide) (by decide) (by decide) (by decide) (by decide) (by decide)) (hR4.cell (k := 5) (by decide) (by decide) (by decide) (by decide) (by decide) (by decide)) (by omega) (by omega) (by omega)) rfl (st1 := []) rfl ?_
  refine x_gen (P := fun G' => RW G0 G' y (ldX X 3600 3) (cF F 1 (3600 + 17)) wa sa) ((hR4.fld (cF F 1 (3600 + 17))).arr (k := 5) (by decide) (by decide) (by decide) (by decide) (by decide) (by decide) (ldF ((ldX X 3600 2) 44) ((ldX X 3600 2) 5) (3600 + 13) 4)) (fun G5 hR5 => ?_)
  refine x_aload_n dX12_carriesAll_38 0 rfl ?_
  refine x_aload_n dX12_carriesAll_39 0 rfl ?_
  refine x_get (v := .ref (y + 6)) dX12_carriesAll_40 fX12_25 (hR5.1) rfl ?_
  refine x_cV (N := mX12_carryRow) (d' := 0) (mc := 0) (ms := 0) (cb := 0) (sb := 0) (As := [.ref (y + 6)]) (st := []) dX12_carriesAll_43 mX12_carryRow_v lX12_512 rfl rfl (hR5.1) rfl (by decide) (Nat.le_of_ble_eq_true rfl) (Md_load (F := F) (b := y + 6) (pp := 3600 + 17) (n := 4) (im := (ldX X 3600 3) 44) (f := (ldX X 3600 3) 6) (hR5.1) (hR5.cell (k := 44) (by decide) (by decide) (by decide) (by decide) (by decide) (by decide)) (hR5.cell (k := 6) (by decide) (by decide) (by decide) (by decide) (by decide) (by decide)) (by omega) (by omega) (by omega)) rfl (st1 := []) rfl ?_
  refine x_gen (P := fun G' => RW G0 G' y (ldX X 3600 4) (cF F 1 (3600 + 21)) wa sa) ((hR5.fld (cF F 1 (3600 + 21))).arr (k := 6) (by decide) (by decide) (by decide) (by decide) (by decide) (by decide) (ldF ((ldX X 3600 3) 44) ((ldX X 3600 3) 6) (3600 + 17) 4)) (fun G6 hR6 => ?_)
  refine x_aload_n dX12_carriesAll_46 0 rfl ?_
  refine x_aload_n dX12_carriesAll_47 0 rfl ?_
  refine x_get (v := .ref (y + 7)) dX12_carriesAll_48 fX12_28 (hR6.1) rfl ?_
  refine x_cV (N := mX12_carryRow) (d' := 0) (mc := 0) (ms := 0) (cb := 0) (sb := 0) (As := [.ref (y + 7)]) (st := []) dX12_carriesAll_51 mX12_carryRow_v lX12_512 rfl rfl (hR6.1) rfl (by decide) (Nat.le_of_ble_eq_true rfl) (Md_load (F := F) (b := y + 7) (pp := 3600 + 21) (n := 4) (im := (ldX X 3600 4) 44) (f := (ldX X 3600 4) 7) (hR6.1) (hR6.cell (k := 44) (by decide) (by decide) (by decide) (by decide) (by decide) (by decide)) (hR6.cell (k := 7) (by decide) (by decide) (by decide) (by decide) (by decide) (by decide)) (by omega) (by omega) (by omega)) rfl (st1 := []) rfl ?_
  refine x_gen (P := fun G' => RW G0 G' y (ldX X 3600 5) (cF F 1 (3600 + 25)) wa sa) ((hR6.fld (cF F 1 (3600 + 25))).arr (k := 7) (by decide) (by decide) (by decide) (by decide) (by decide) (by decide) (ldF ((ldX X 3600 4) 44) ((ldX X 3600 4) 7) (3600 + 21) 4)) (fun G7 hR7 => ?_)
  refine x_aload_n dX12_carriesAll_54 0 rfl ?_
  refine x_pc (pc' := 55) rfl ?_
  refine x_aload_n dX12_carriesAll_55 0 rfl ?_
  refine x_get (v := .ref (y + 8)) dX12_carriesAll_56 fX12_31 (hR7.1) rfl ?_
  refine x_cV (N := mX12_carryRow) (d' := 0) (mc := 0) (ms := 0) (cb := 0) (sb := 0) (As := [.ref (y + 8)]) (st := []) dX12_carriesAll_59 mX12_carryRow_v lX12_512 rfl rfl (hR7.1) rfl (by decide) (Nat.le_of_ble_eq_true rfl) (Md_load (F := F) (b := y + 8) (pp := 3600 + 25) (n := 4) (im := (ldX X 3600 5) 44) (f := (ldX X 3600 5) 8) (hR7.1) (hR7.cell (k := 44) (by decide) (by decide) (by decide) (by decide) (by decide) (by decide)) (hR7.cell (k := 8) (by decide) (by decide) (by decide) (by decide) (by decide) (by decide)) (by omega) (by omega) (by omega)) rfl (st1 := []) rfl ?_
  refine x_gen (P := fun G' => RW G0 G' y (ldX X 3600 6) (cF F 1 (3600 + 29)) wa sa) ((hR7.fld (cF F 1 (3600 + 29))).arr (k := 8) (by decide) (by decide) (by decide) (by decide) (by decide) (by decide) (ldF ((ldX X 3600 5) 44) ((ldX X 3600 5) 8) (3600 + 25) 4)) (fun G8 hR8 => ?_)
  refine x_aload_n dX12_carriesAll_62 0 rfl ?_
  refine x_aload_n dX12_carriesAll_63 0 rfl ?_
  refine x_get (v := .ref (y + 13)) dX12_carriesAll_64 fX12_46 (hR8.1) rfl ?_
  refine x_cV (N := mX12_carryRow) (d' := 0) (mc := 0) (ms := 0) (cb := 0) (sb := 0) (As := [.ref (y + 13)]) (st := []) dX12_carriesAll_67 mX12_carryRow_v lX12_512 rfl rfl (hR8.1) rfl (by decide) (Nat.le_of_ble_eq_true rfl) (Md_load (F := F) (b := y + 13) (pp := 3600 + 29) (n := 7) (im := (ldX X 3600 6) 44) (f := (ldX X 3600 6) 13) (hR8.1) (hR8.cell (k := 44) (by decide) (by decide) (by decide) (by decide) (by decide) (by decide)) (hR8.cell (k := 13) (by decide) (by decide) (by decide) (by decide) (by decide) (by decide)) (by omega) (by omega) (by omega)) rfl (st1 := []) rfl ?_
  refine x_gen (P := fun G' => RW G0 G' y (ldX X 3600 7) (cF F 1 (3600 + 36)) wa sa) ((hR8.fld (cF F 1 (3600 + 36))).arr (k := 13) (by decide) (by decide) (by decide) (by decide) (by decide) (by decide) (ldF ((ldX X 3600 6) 44) ((ldX X 3600 6) 13) (3600 + 29) 7)) (fun G9 hR9 => ?_)
  refine x_aload_n dX12_carriesAll_70 0 rfl ?_
  refine x_aload_n dX12_carriesAll_71 0 rfl ?_
  refine x_get (v := .ref (y + 14)) dX12_carriesAll_72 fX12_49 (hR9.1) rfl ?_
  refine x_pc (pc' := 75) rfl ?_
  refine x_cV (N := mX12_carryRow) (d' := 0) (mc := 0) (ms := 0) (cb := 0) (sb := 0) (As := [.ref (y + 14)]) (st := []) dX12_carriesAll_75 mX12_carryRow_v lX12_512 rfl rfl (hR9.1) rfl (by decide) (Nat.le_of_ble_eq_true rfl) (Md_load (F := F) (b := y + 14) (pp := 3600 + 36) (n := 7) (im := (ldX X 3600 7) 44) (f := (ldX X 3600 7) 14) (hR9.1) (hR9.cell (k := 44) (by decide) (by decide) (by decide) (by decide) (by decide) (by decide)) (hR9.cell (k := 14) (by decide) (by decide) (by decide) (by decide) (by decide) (by decide)) (by omega) (by omega) (by omega)) rfl (st1 := []) rfl ?_
  refine x_gen (P := fun G' => RW G0 G' y (ldX X 3600 8) (cF F 1 (3600 + 43)) wa sa) ((hR9.fld (cF F 1 (3600 + 43))).arr (k := 14) (by decide) (by decide) (by decide) (by decide) (by decide) (by decide) (ldF ((ldX X 3600 7) 44) ((ldX X 3600 7) 14) (3600 + 36) 7)) (fun G10 hR10 => ?_)
  refine x_aload_n dX12_carriesAll_78 0 rfl ?_
  refine x_aload_n dX12_carriesAll_79 0 rfl ?_
  refine x_get (v := .ref (y + 10)) dX12_carriesAll_80 fX12_37 (hR10.1) rfl ?_
  refine x_cV (N := mX12_carryRow) (d' := 0) (mc := 0) (ms := 0) (cb := 0) (sb := 0) (As := [.ref (y + 10)]) (st := []) dX12_carriesAll_83 mX12_carryRow_v lX12_512 rfl rfl (hR10.1) rfl (by decide) (Nat.le_of_ble_eq_true rfl) (Md_load (F := F) (b := y + 10) (pp := 3600 + 43) (n := 7) (im := (ldX X 3600 8) 44) (f := (ldX X 3600 8) 10) (hR10.1) (hR10.cell (k := 44) (by decide) (by decide) (by decide) (by decide) (by decide) (by decide)) (hR10.cell (k := 10) (by decide) (by decide) (by decide) (by decide) (by decide) (by decide)) (by omega) (by omega) (by omega)) rfl (st1 := []) rfl ?_
  refine x_gen (P := fun G' => RW G0 G' y (ldX X 3600 9) (cF F 1 (3600 + 50)) wa sa) ((hR10.fld (cF F 1 (3600 + 50))).arr (k := 10) (by decide) (by decide) (by decide) (by decide) (by decide) (by decide) (ldF ((ldX X 3600 8) 44) ((ldX X 3600 8) 10) (3600 + 43) 7)) (fun G11 hR11 => ?_)
  refine x_iload_n dX12_carriesAll_86 1 rfl ?_
  refine x_iconst dX12_carriesAll_87 ki_4 ?_
  refine x_icmpN_ne (tgt := 92) dX12_carriesAll_88 (by decide) (by omega) (by omega) (fun c88 => ?_) (fun c88 => ?_)
  · exact absurd c88 (by decide)
  · exact x_vret dX12_carriesAll_91 rfl (xEx_i G11 hR11 rfl rfl rfl)
