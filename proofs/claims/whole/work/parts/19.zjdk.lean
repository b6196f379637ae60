/-! ===== JDK: Arrays.fill, Math.max, Math.min, Integer.bitCount ===== -/
theorem Arr_fill_loop {K : xG} {h a n : Nat} {G : xHp} {f : Nat → Int32} {v : Int32} (hn : n < 2 ^ 31) : ∀ (k i : Nat), i + k = n → xV K mJ7_fill_53178 0 0 0 h (xup G a (eI 0 n (fillF f v i))) 5 [(2, .int (nI i)), (3, .int (nI n)), (0, .ref a), (1, .int v)] [] (xRet none h (xup G a (eI 0 n (fun _ => v)))) := by
  intro k
  induction k with
  | zero =>
    intro i hi
    refine x_iload_n dJ7_fill_53178_5 0 rfl ?_
    refine x_iload_n dJ7_fill_53178_6 1 rfl ?_
    refine x_icmpN_ge (tgt := 20) dJ7_fill_53178_7 (by decide) (by omega) (by omega) (fun c7 => ?_) (fun c7 => ?_)
    · refine x_acong (g := fun _ => v) (fun j hj => by simp [fillF]; omega) ?_
      exact x_vret dJ7_fill_53178_20 rfl (xRet_i)
    · exact absurd c7 (by omega)
  | succ k ih =>
    intro i hi
    refine x_iload_n dJ7_fill_53178_5 0 rfl ?_
    refine x_iload_n dJ7_fill_53178_6 1 rfl ?_
    refine x_icmpN_ge (tgt := 20) dJ7_fill_53178_7 (by decide) (by omega) (by omega) (fun c7 => ?_) (fun c7 => ?_)
    · exact absurd c7 (by omega)
    · refine x_aload_n dJ7_fill_53178_10 2 rfl ?_
      refine x_iload_n dJ7_fill_53178_11 0 rfl ?_
      refine x_iload_n dJ7_fill_53178_12 3 rfl ?_
      refine x_iastN dJ7_fill_53178_13 (xup_eq) (by omega) (by omega) ?_
      refine x_geq xup_up ?_
      refine x_iinc (v := nI (i + 1)) (ls' := [(2, .int (nI (i + 1))), (3, .int (nI n)), (0, .ref a), (1, .int v)]) dJ7_fill_53178_14 0 rfl (nIs _) (by decide) rfl ?_
      refine x_goto (tgt := 5) dJ7_fill_53178_17 (by decide) ?_
      rw [fillF_s]
      exact ih (i + 1) (by omega)
theorem Arr_fill {K : xG} {h a n : Nat} {G : xHp} {f : Nat → Int32} {v : Int32} (hn : n < 2 ^ 31) (hc : G a = some (eI 0 n f)) : xCall K mJ7_fill_53178 0 0 0 [.ref a, .int v] h G (xRet none h (xup G a (eI 0 n (fun _ => v)))) := by
  refine x_entry (by decide) (ls := [(0, .ref a), (1, .int v)]) rfl (Nat.le_of_ble_eq_true rfl) ?_
  refine x_iconst dJ7_fill_53178_0 ki_0 ?_
  refine x_istore_n (ls' := [(2, .int (nI 0)), (0, .ref a), (1, .int v)]) dJ7_fill_53178_1 (by decide) rfl ?_
  refine x_aload_n dJ7_fill_53178_2 1 rfl ?_
  refine x_alen dJ7_fill_53178_3 (by decide) (hc) ?_
  refine x_istore_n (ls' := [(3, .int (nI n)), (2, .int (nI 0)), (0, .ref a), (1, .int v)]) dJ7_fill_53178_4 (by decide) rfl ?_
  refine x_perm (ls' := [(2, .int (nI 0)), (3, .int (nI n)), (0, .ref a), (1, .int v)]) [1, 0, 2, 3] rfl ?_
  refine x_geq (show G = xup G a (eI 0 n (fillF f v 0)) from by rw [fillF_0, xup_same hc]) ?_
  exact Arr_fill_loop hn n 0 (by omega)
def bc1 (i : Int32) : Int32 := i - ((i.toUInt32 >>> ((nI 1).toUInt32 &&& Int32.toUInt32 31)).toInt32 &&& nI 1431655765)
def bc2 (i : Int32) : Int32 := (i &&& nI 858993459) + ((i.toUInt32 >>> ((nI 2).toUInt32 &&& Int32.toUInt32 31)).toInt32 &&& nI 858993459)
def bc3 (i : Int32) : Int32 := (i + (i.toUInt32 >>> ((nI 4).toUInt32 &&& Int32.toUInt32 31)).toInt32) &&& nI 252645135
def bc4 (i : Int32) : Int32 := i + (i.toUInt32 >>> ((nI 8).toUInt32 &&& Int32.toUInt32 31)).toInt32
def bc5 (i : Int32) : Int32 := i + (i.toUInt32 >>> ((nI 16).toUInt32 &&& Int32.toUInt32 31)).toInt32
def bcI (i : Int32) : Int32 := bc5 (bc4 (bc3 (bc2 (bc1 i)))) &&& nI 63
theorem Int_bitCount {K : xG} {h : Nat} {G : xHp} {i0 : Int32} : xCall K mJ6_bitCount_0f7a4 0 0 0 [.int i0] h G (xRet (some (.int (bcI i0))) h G) := by
  refine x_entry (by decide) (ls := [(0, .int i0)]) rfl (Nat.le_of_ble_eq_true rfl) ?_
  refine x_iload_n dJ6_bitCount_0f7a4_0 0 rfl ?_
  refine x_iload_n dJ6_bitCount_0f7a4_1 0 rfl ?_
  refine x_iconst dJ6_bitCount_0f7a4_2 ki_1 ?_
  refine x_iushr dJ6_bitCount_0f7a4_3 ?_
  refine x_ldcw dJ6_bitCount_0f7a4_4 cJ6_265 ?_
  refine x_topi (y := nI 1431655765) (by decide) ?_
  refine x_iand dJ6_bitCount_0f7a4_7 ?_
  refine x_isub dJ6_bitCount_0f7a4_8 ?_
  refine x_topi (y := bc1 i0) rfl ?_
  refine x_istore_n (ls' := [(0, .int (bc1 i0))]) dJ6_bitCount_0f7a4_9 (by decide) rfl ?_
  refine x_iload_n dJ6_bitCount_0f7a4_10 0 rfl ?_
  refine x_pc (pc' := 11) rfl ?_
  refine x_ldcw dJ6_bitCount_0f7a4_11 cJ6_266 ?_
  refine x_topi (y := nI 858993459) (by decide) ?_
  refine x_iand dJ6_bitCount_0f7a4_14 ?_
  refine x_iload_n dJ6_bitCount_0f7a4_15 0 rfl ?_
  refine x_iconst dJ6_bitCount_0f7a4_16 ki_2 ?_
  refine x_iushr dJ6_bitCount_0f7a4_17 ?_
  refine x_ldcw dJ6_bitCount_0f7a4_18 cJ6_266 ?_
  refine x_topi (y := nI 858993459) (by decide) ?_
  refine x_iand dJ6_bitCount_0f7a4_21 ?_
  refine x_iadd dJ6_bitCount_0f7a4_22 ?_
  refine x_topi (y := bc2 (bc1 i0)) rfl ?_
  refine x_istore_n (ls' := [(0, .int (bc2 (bc1 i0)))]) dJ6_bitCount_0f7a4_23 (by decide) rfl ?_
  refine x_iload_n dJ6_bitCount_0f7a4_24 0 rfl ?_
  refine x_pc (pc' := 25) rfl ?_
  refine x_iload_n dJ6_bitCount_0f7a4_25 0 rfl ?_
  refine x_iconst dJ6_bitCount_0f7a4_26 ki_4 ?_
  refine x_iushr dJ6_bitCount_0f7a4_27 ?_
  refine x_iadd dJ6_bitCount_0f7a4_28 ?_
  refine x_ldcw dJ6_bitCount_0f7a4_29 cJ6_267 ?_
  refine x_topi (y := nI 252645135) (by decide) ?_
  refine x_iand dJ6_bitCount_0f7a4_32 ?_
  refine x_topi (y := bc3 (bc2 (bc1 i0))) rfl ?_
  refine x_istore_n (ls' := [(0, .int (bc3 (bc2 (bc1 i0))))]) dJ6_bitCount_0f7a4_33 (by decide) rfl ?_
  refine x_iload_n dJ6_bitCount_0f7a4_34 0 rfl ?_
  refine x_iload_n dJ6_bitCount_0f7a4_35 0 rfl ?_
  refine x_bipush dJ6_bitCount_0f7a4_36 kb_8 ?_
  refine x_pc (pc' := 38) rfl ?_
  refine x_iushr dJ6_bitCount_0f7a4_38 ?_
  refine x_iadd dJ6_bitCount_0f7a4_39 ?_
  refine x_topi (y := bc4 (bc3 (bc2 (bc1 i0)))) rfl ?_
  refine x_istore_n (ls' := [(0, .int (bc4 (bc3 (bc2 (bc1 i0)))))]) dJ6_bitCount_0f7a4_40 (by decide) rfl ?_
  refine x_iload_n dJ6_bitCount_0f7a4_41 0 rfl ?_
  refine x_iload_n dJ6_bitCount_0f7a4_42 0 rfl ?_
  refine x_bipush dJ6_bitCount_0f7a4_43 kb_16 ?_
  refine x_iushr dJ6_bitCount_0f7a4_45 ?_
  refine x_iadd dJ6_bitCount_0f7a4_46 ?_
  refine x_topi (y := bc5 (bc4 (bc3 (bc2 (bc1 i0))))) rfl ?_
  refine x_istore_n (ls' := [(0, .int (bc5 (bc4 (bc3 (bc2 (bc1 i0))))))]) dJ6_bitCount_0f7a4_47 (by decide) rfl ?_
  refine x_iload_n dJ6_bitCount_0f7a4_48 0 rfl ?_
  refine x_pc (pc' := 49) rfl ?_
  refine x_bipush dJ6_bitCount_0f7a4_49 kb_63 ?_
  refine x_iand dJ6_bitCount_0f7a4_51 ?_
  exact x_iret dJ6_bitCount_0f7a4_52 rfl (xRet_i)
