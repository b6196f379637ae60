theorem Hall_clearW {K : xG} {h b : Nat} {G : xHp} {hl : xHl} {e w : Int32} (hH : HallW G b hl e w) : xCall K mX3_clear 1 0 0 [.ref b] h G (xEx (fun G' => HallW G' b (hlClr hl) e w ∧ Fr G G' b 8) (fun _ => none) (fun _ => h) (fun G' => G')) := by
  refine x_entry (by decide) (ls := [(0, .ref b)]) rfl (Nat.le_of_ble_eq_true rfl) ?_
  refine x_aload_n dX3_clear_0 0 rfl ?_
  refine x_iconst dX3_clear_1 ki_0 ?_
  refine x_put (fs' := [.int e, .int w, .int (nI 0), .int (nI (hl 0 3)), .int (nI (hl 0 4)), .ref (b + 1), .ref (b + 2), .ref (b + 3), .ref (b + 4), .ref (b + 5), .ref (b + 6), .ref (b + 7)]) dX3_clear_2 fX3_33 (hH.1) (Nat.le_of_ble_eq_true rfl) rfl rfl rfl ?_
  refine x_aload_n dX3_clear_5 0 rfl ?_
  refine x_iconst dX3_clear_6 ki_0 ?_
  refine x_put (fs' := [.int e, .int w, .int (nI 0), .int (nI 0), .int (nI (hl 0 4)), .ref (b + 1), .ref (b + 2), .ref (b + 3), .ref (b + 4), .ref (b + 5), .ref (b + 6), .ref (b + 7)]) dX3_clear_7 fX3_37 (xup_eq) (Nat.le_of_ble_eq_true rfl) rfl rfl rfl ?_
  refine x_geq xup_up ?_
  refine x_aload_n dX3_clear_10 0 rfl ?_
  refine x_iconst dX3_clear_11 ki_0 ?_
  refine x_put (fs' := [.int e, .int w, .int (nI 0), .int (nI 0), .int (nI 0), .ref (b + 1), .ref (b + 2), .ref (b + 3), .ref (b + 4), .ref (b + 5), .ref (b + 6), .ref (b + 7)]) dX3_clear_12 fX3_40 (xup_eq) (Nat.le_of_ble_eq_true rfl) rfl rfl rfl ?_
  refine x_geq xup_up ?_
  refine x_pc (pc' := 15) rfl ?_
  refine x_aload_n dX3_clear_15 0 rfl ?_
  refine x_get dX3_clear_16 fX3_18 (xup_eq) rfl ?_
  refine x_iconst dX3_clear_19 ki_0 ?_
  refine x_cS (N := mJ7_fill_53178) (d' := 0) (mc := 0) (ms := 0) (cb := 0) (sb := 0) (As := [.ref (b + 3), .int (nI 0)]) (st := []) dX3_clear_20 mJ7_fill_53178_s lX3_43 rfl (by decide) (Nat.le_of_ble_eq_true rfl) (Arr_fill (by decide) (xup_of (by omega) (hH.2.2.2.1))) rfl (st1 := []) rfl ?_
  exact x_vret dX3_clear_23 rfl (xEx_i (xup (xup G b (eO 3 [.int e, .int w, .int (nI 0), .int (nI 0), .int (nI 0), .ref (b + 1), .ref (b + 2), .ref (b + 3), .ref (b + 4), .ref (b + 5), .ref (b + 6), .ref (b + 7)])) (b + 3) (eI 0 16 (fun _ => nI 0))) ⟨⟨xup_of (by omega) (xup_eq), by rw [hlClr_off hl (i := 1) (by decide) (by decide)]; exact xup_of (by omega) (xup_of (by omega) (hH.2.1)), by rw [hlClr_off hl (i := 2) (by decide) (by decide)]; exact xup_of (by omega) (xup_of (by omega) (hH.2.2.1)), xup_eq, by rw [hlClr_off hl (i := 4) (by decide) (by decide)]; exact xup_of (by omega) (xup_of (by omega) (hH.2.2.2.2.1)), by rw [hlClr_off hl (i := 5) (by decide) (by decide)]; exact xup_of (by omega) (xup_of (by omega) (hH.2.2.2.2.2.1)), by rw [hlClr_off hl (i := 6) (by decide) (by decide)]; exact xup_of (by omega) (xup_of (by omega) (hH.2.2.2.2.2.2.1)), by rw [hlClr_off hl (i := 7) (by decide) (by decide)]; exact xup_of (by omega) (xup_of (by omega) (hH.2.2.2.2.2.2.2.1)), hlClr_lt hH.2.2.2.2.2.2.2.2⟩, ((Fr.rf).up1 (by omega) (by omega)).up1 (by omega) (by omega)⟩ rfl rfl rfl)
theorem Hr_tooM {K : xG} {h b tx n : Nat} {G0 G : xHp} {tp : Nat → Nat} {p : Nat} {hl : xHl} {f : Nat} {e v : Int32} {w bf : Nat} (hW : HRd G0 G b tx n tp f p hl e v) (hw : w < 1000) (hb : bf < 1000) : xCall K mX4_isOneTooMany 0 0 0 [.ref b, .int (nI w), .int (nI bf)] h G (xRet (some (.int (bI (tooM hl w bf)))) h G) := by
  refine x_entry (by decide) (ls := [(0, .ref b), (1, .int (nI w)), (2, .int (nI bf))]) rfl (Nat.le_of_ble_eq_true rfl) ?_
  have hB := hW.2.1.2.2.2.2.2.2.2.2
  obtain ⟨u2, u3, u4, u5, u6, hc⟩ := hW.1.cell
  refine x_iload_n dX4_isOneTooMany_0 2 rfl ?_
  refine x_bipush dX4_isOneTooMany_1 kb_40 ?_
  refine x_icmpN_ge (tgt := 76) dX4_isOneTooMany_3 (by decide) (by have := hB 0 2; have := hB 0 3; have := hB 0 4; omega) (by have := hB 0 2; have := hB 0 3; have := hB 0 4; omega) (fun c3 => ?_) (fun c3 => ?_)
  · refine x_iconst dX4_isOneTooMany_76 ki_1 ?_
    refine x_goto (tgt := 81) dX4_isOneTooMany_77 (by decide) ?_
    exact x_zret dX4_isOneTooMany_81 rfl (by first | rfl | decide | exact bI_nar _) (xRet_e (by rw [show tooM hl w bf = true from decide_eq_true (by omega)]; rfl) rfl)
  · refine x_iload_n dX4_isOneTooMany_6 1 rfl ?_
    refine x_ifN_ne (tgt := 14) dX4_isOneTooMany_7 (by decide) (by have := hB 0 2; have := hB 0 3; have := hB 0 4; omega) (fun c7 => ?_) (fun c7 => ?_)
    · refine x_iconst dX4_isOneTooMany_14 ki_0 ?_
      refine x_iload_n dX4_isOneTooMany_15 2 rfl ?_
      refine x_ifN_ne (tgt := 23) dX4_isOneTooMany_16 (by decide) (by have := hB 0 2; have := hB 0 3; have := hB 0 4; omega) (fun c16 => ?_) (fun c16 => ?_)
      · refine x_iconst dX4_isOneTooMany_23 ki_0 ?_
        refine x_pc (pc' := 24) rfl ?_
        refine x_icmpN_ne (tgt := 76) dX4_isOneTooMany_24 (by decide) (by have := hB 0 2; have := hB 0 3; have := hB 0 4; omega) (by have := hB 0 2; have := hB 0 3; have := hB 0 4; omega) (fun c24 => ?_) (fun c24 => ?_)
        · exact absurd c24 (by decide)
        · refine x_iload_n dX4_isOneTooMany_27 1 rfl ?_
          refine x_iconst dX4_isOneTooMany_28 ki_1 ?_
          refine x_icmpN_ne (tgt := 43) dX4_isOneTooMany_29 (by decide) (by have := hB 0 2; have := hB 0 3; have := hB 0 4; omega) (by have := hB 0 2; have := hB 0 3; have := hB 0 4; omega) (fun c29 => ?_) (fun c29 => ?_)
          · refine x_iload_n dX4_isOneTooMany_43 1 rfl ?_
            refine x_iconst dX4_isOneTooMany_44 ki_2 ?_
            refine x_icmpN_ne (tgt := 59) dX4_isOneTooMany_45 (by decide) (by have := hB 0 2; have := hB 0 3; have := hB 0 4; omega) (by have := hB 0 2; have := hB 0 3; have := hB 0 4; omega) (fun c45 => ?_) (fun c45 => ?_)
            · refine x_iload_n dX4_isOneTooMany_59 1 rfl ?_
              refine x_iconst dX4_isOneTooMany_60 ki_4 ?_
              refine x_icmpN_ne (tgt := 80) dX4_isOneTooMany_61 (by decide) (by have := hB 0 2; have := hB 0 3; have := hB 0 4; omega) (by have := hB 0 2; have := hB 0 3; have := hB 0 4; omega) (fun c61 => ?_) (fun c61 => ?_)
              · refine x_pc (pc' := 80) rfl ?_
                refine x_iconst dX4_isOneTooMany_80 ki_0 ?_
                exact x_zret dX4_isOneTooMany_81 rfl (by first | rfl | decide | exact bI_nar _) (xRet_e (by rw [show tooM hl w bf = false from decide_eq_false (by omega)]; rfl) rfl)
              · refine x_pc (pc' := 64) rfl ?_
                refine x_aload_n dX4_isOneTooMany_64 0 rfl ?_
                refine x_get dX4_isOneTooMany_65 fX4_12 (hW.2.2.1) rfl ?_
                refine x_get dX4_isOneTooMany_68 fX4_92 (hW.2.1.1) rfl ?_
                refine x_bipush dX4_isOneTooMany_71 kb_7 ?_
                refine x_icmpN_lt (tgt := 80) dX4_isOneTooMany_73 (by decide) (by have := hB 0 2; have := hB 0 3; have := hB 0 4; omega) (by have := hB 0 2; have := hB 0 3; have := hB 0 4; omega) (fun c73 => ?_) (fun c73 => ?_)
                · refine x_iconst dX4_isOneTooMany_80 ki_0 ?_
                  exact x_zret dX4_isOneTooMany_81 rfl (by first | rfl | decide | exact bI_nar _) (xRet_e (by rw [show tooM hl w bf = false from decide_eq_false (by omega)]; rfl) rfl)
                · refine x_iconst dX4_isOneTooMany_76 ki_1 ?_
                  refine x_goto (tgt := 81) dX4_isOneTooMany_77 (by decide) ?_
                  exact x_zret dX4_isOneTooMany_81 rfl (by first | rfl | decide | exact bI_nar _) (xRet_e (by rw [show tooM hl w bf = true from decide_eq_true (by omega)]; rfl) rfl)
            · refine x_aload_n dX4_isOneTooMany_48 0 rfl ?_
              refine x_get dX4_isOneTooMany_49 fX4_12 (hW.2.2.1) rfl ?_
              refine x_get dX4_isOneTooMany_52 fX4_89 (hW.2.1.1) rfl ?_
              refine x_pc (pc' := 55) rfl ?_
              refine x_iconst dX4_isOneTooMany_55 ki_4 ?_
              refine x_icmpN_ge (tgt := 76) dX4_isOneTooMany_56 (by decide) (by have := hB 0 2; have := hB 0 3; have := hB 0 4; omega) (by have := hB 0 2; have := hB 0 3; have := hB 0 4; omega) (fun c56 => ?_) (fun c56 => ?_)
              · refine x_iconst dX4_isOneTooMany_76 ki_1 ?_
                refine x_goto (tgt := 81) dX4_isOneTooMany_77 (by decide) ?_
                exact x_zret dX4_isOneTooMany_81 rfl (by first | rfl | decide | exact bI_nar _) (xRet_e (by rw [show tooM hl w bf = true from decide_eq_true (by omega)]; rfl) rfl)
              · refine x_iload_n dX4_isOneTooMany_59 1 rfl ?_
                refine x_iconst dX4_isOneTooMany_60 ki_4 ?_
                refine x_icmpN_ne (tgt := 80) dX4_isOneTooMany_61 (by decide) (by have := hB 0 2; have := hB 0 3; have := hB 0 4; omega) (by have := hB 0 2; have := hB 0 3; have := hB 0 4; omega) (fun c61 => ?_) (fun c61 => ?_)
                · refine x_iconst dX4_isOneTooMany_80 ki_0 ?_
                  exact x_zret dX4_isOneTooMany_81 rfl (by first | rfl | decide | exact bI_nar _) (xRet_e (by rw [show tooM hl w bf = false from decide_eq_false (by omega)]; rfl) rfl)
                · refine x_aload_n dX4_isOneTooMany_64 0 rfl ?_
                  refine x_get dX4_isOneTooMany_65 fX4_12 (hW.2.2.1) rfl ?_
                  refine x_get dX4_isOneTooMany_68 fX4_92 (hW.2.1.1) rfl ?_
                  refine x_bipush dX4_isOneTooMany_71 kb_7 ?_
                  refine x_icmpN_lt (tgt := 80) dX4_isOneTooMany_73 (by decide) (by have := hB 0 2; have := hB 0 3; have := hB 0 4; omega) (by have := hB 0 2; have := hB 0 3; have := hB 0 4; omega) (fun c73 => ?_) (fun c73 => ?_)
                  · refine x_pc (pc' := 80) rfl ?_
                    refine x_iconst dX4_isOneTooMany_80 ki_0 ?_
                    exact x_zret dX4_isOneTooMany_81 rfl (by first | rfl | decide | exact bI_nar _) (xRet_e (by rw [show tooM hl w bf = false from decide_eq_false (by omega)]; rfl) rfl)
                  · refine x_pc (pc' := 76) rfl ?_
                    refine x_iconst dX4_isOneTooMany_76 ki_1 ?_
                    refine x_goto (tgt := 81) dX4_isOneTooMany_77 (by decide) ?_
                    exact x_zret dX4_isOneTooMany_81 rfl (by first | rfl | decide | exact bI_nar _) (xRet_e (by rw [show tooM hl w bf = true from decide_eq_true (by omega)]; rfl) rfl)
          · refine x_aload_n dX4_isOneTooMany_32 0 rfl ?_
            refine x_get dX4_isOneTooMany_33 fX4_12 (hW.2.2.1) rfl ?_
            refine x_get dX4_isOneTooMany_36 fX4_86 (hW.2.1.1) rfl ?_
            refine x_iconst dX4_isOneTooMany_39 ki_4 ?_
            refine x_icmpN_ge (tgt := 76) dX4_isOneTooMany_40 (by decide) (by have := hB 0 2; have := hB 0 3; have := hB 0 4; omega) (by have := hB 0 2; have := hB 0 3; have := hB 0 4; omega) (fun c40 => ?_) (fun c40 => ?_)
            · refine x_iconst dX4_isOneTooMany_76 ki_1 ?_
              refine x_pc (pc' := 77) rfl ?_
              refine x_goto (tgt := 81) dX4_isOneTooMany_77 (by decide) ?_
              exact x_zret dX4_isOneTooMany_81 rfl (by first | rfl | decide | exact bI_nar _) (xRet_e (by rw [show tooM hl w bf = true from decide_eq_true (by omega)]; rfl) rfl)
            · refine x_iload_n dX4_isOneTooMany_43 1 rfl ?_
              refine x_pc (pc' := 44) rfl ?_
              refine x_iconst dX4_isOneTooMany_44 ki_2 ?_
              refine x_icmpN_ne (tgt := 59) dX4_isOneTooMany_45 (by decide) (by have := hB 0 2; have := hB 0 3; have := hB 0 4; omega) (by have := hB 0 2; have := hB 0 3; have := hB 0 4; omega) (fun c45 => ?_) (fun c45 => ?_)
              · refine x_iload_n dX4_isOneTooMany_59 1 rfl ?_
                refine x_iconst dX4_isOneTooMany_60 ki_4 ?_
                refine x_icmpN_ne (tgt := 80) dX4_isOneTooMany_61 (by decide) (by have := hB 0 2; have := hB 0 3; have := hB 0 4; omega) (by have := hB 0 2; have := hB 0 3; have := hB 0 4; omega) (fun c61 => ?_) (fun c61 => ?_)
                · refine x_iconst dX4_isOneTooMany_80 ki_0 ?_
                  exact x_zret dX4_isOneTooMany_81 rfl (by first | rfl | decide | exact bI_nar _) (xRet_e (by rw [show tooM hl w bf = false from decide_eq_false (by omega)]; rfl) rfl)
                · refine x_aload_n dX4_isOneTooMany_64 0 rfl ?_
                  refine x_get dX4_isOneTooMany_65 fX4_12 (hW.2.2.1) rfl ?_
                  refine x_get dX4_isOneTooMany_68 fX4_92 (hW.2.1.1) rfl ?_
                  refine x_bipush dX4_isOneTooMany_71 kb_7 ?_
                  refine x_icmpN_lt (tgt := 80) dX4_isOneTooMany_73 (by decide) (by have := hB 0 2; have := hB 0 3; have := hB 0 4; omega) (by have := hB 0 2; have := hB 0 3; have := hB 0 4; omega) (fun c73 => ?_) (fun c73 => ?_)
                  · refine x_pc (pc' := 80) rfl ?_
                    refine x_iconst dX4_isOneTooMany_80 ki_0 ?_
                    exact x_zret dX4_isOneTooMany_81 rfl (by first | rfl | decide | exact bI_nar _) (xRet_e (by rw [show tooM hl w bf = false from decide_eq_false (by omega)]; rfl) rfl)
                  · refine x_pc (pc' := 76) rfl ?_
                    refine x_iconst dX4_isOneTooMany_76 ki_1 ?_
                    refine x_goto (tgt := 81) dX4_isOneTooMany_77 (by decide) ?_
                    exact x_zret dX4_isOneTooMany_81 rfl (by first | rfl | decide | exact bI_nar _) (xRet_e (by rw [show tooM hl w bf = true from decide_eq_true (by omega)]; rfl) rfl)
              · refine x_aload_n dX4_isOneTooMany_48 0 rfl ?_
                refine x_get dX4_isOneTooMany_49 fX4_12 (hW.2.2.1) rfl ?_
                refine x_get dX4_isOneTooMany_52 fX4_89 (hW.2.1.1) rfl ?_
                refine x_iconst dX4_isOneTooMany_55 ki_4 ?_
                refine x_icmpN_ge (tgt := 76) dX4_isOneTooMany_56 (by decide) (by have := hB 0 2; have := hB 0 3; have := hB 0 4; omega) (by have := hB 0 2; have := hB 0 3; have := hB 0 4; omega) (fun c56 => ?_) (fun c56 => ?_)
                · refine x_iconst dX4_isOneTooMany_76 ki_1 ?_
                  refine x_goto (tgt := 81) dX4_isOneTooMany_77 (by decide) ?_
                  exact x_zret dX4_isOneTooMany_81 rfl (by first | rfl | decide | exact bI_nar _) (xRet_e (by rw [show tooM hl w bf = true from decide_eq_true (by omega)]; rfl) rfl)
                · refine x_iload_n dX4_isOneTooMany_59 1 rfl ?_
                  refine x_iconst dX4_isOneTooMany_60 ki_4 ?_
                  refine x_icmpN_ne (tgt := 80) dX4_isOneTooMany_61 (by decide) (by have := hB 0 2; have := hB 0 3; have := hB 0 4; omega) (by have := hB 0 2; have := hB 0 3; have := hB 0 4; omega) (fun c61 => ?_) (fun c61 => ?_)
                  · refine x_pc (pc' := 80) rfl ?_
                    refine x_iconst dX4_isOneTooMany_80 ki_0 ?_
                    exact x_zret dX4_isOneTooMany_81 rfl (by first | rfl | decide | exact bI_nar _) (xRet_e (by rw [show tooM hl w bf = false from decide_eq_false (by omega)]; rfl) rfl)
                  · refine x_pc (pc' := 64) rfl ?_
                    refine x_aload_n dX4_isOneTooMany_64 0 rfl ?_
                    refine x_get dX4_isOneTooMany_65 fX4_12 (hW.2.2.1) rfl ?_
                    refine x_get dX4_isOneTooMany_68 fX4_92 (hW.2.1.1) rfl ?_
                    refine x_bipush dX4_isOneTooMany_71 kb_7 ?_
                    refine x_icmpN_lt (tgt := 80) dX4_isOneTooMany_73 (by decide) (by have := hB 0 2; have := hB 0 3; have := hB 0 4; omega) (by have := hB 0 2; have := hB 0 3; have := hB 0 4; omega) (fun c73 => ?_) (fun c73 => ?_)
                    · refine x_iconst dX4_isOneTooMany_80 ki_0 ?_
                      exact x_zret dX4_isOneTooMany_81 rfl (by first | rfl | decide | exact bI_nar _) (xRet_e (by rw [show tooM hl w bf = false from decide_eq_false (by omega)]; rfl) rfl)
                    · refine x_iconst dX4_isOneTooMany_76 ki_1 ?_
                      refine x_goto (tgt := 81) dX4_isOneTooMany_77 (by decide) ?_
                      exact x_zret dX4_isOneTooMany_81 rfl (by first | rfl | decide | exact bI_nar _) (xRet_e (by rw [show tooM hl w bf = true from decide_eq_true (by omega)]; rfl) rfl)
      · refine x_iconst dX4_isOneTooMany_19 ki_1 ?_
        refine x_pc (pc' := 20) rfl ?_
        refine x_goto (tgt := 24) dX4_isOneTooMany_20 (by decide) ?_
        refine x_icmpN_ne (tgt := 76) dX4_isOneTooMany_24 (by decide) (by have := hB 0 2; have := hB 0 3; have := hB 0 4; omega) (by have := hB 0 2; have := hB 0 3; have := hB 0 4; omega) (fun c24 => ?_) (fun c24 => ?_)
        · refine x_iconst dX4_isOneTooMany_76 ki_1 ?_
          refine x_goto (tgt := 81) dX4_isOneTooMany_77 (by decide) ?_
          exact x_zret dX4_isOneTooMany_81 rfl (by first | rfl | decide | exact bI_nar _) (xRet_e (by rw [show tooM hl w bf = true from decide_eq_true (by omega)]; rfl) rfl)
        · exact absurd c24 (by decide)
    · refine x_iconst dX4_isOneTooMany_10 ki_1 ?_
      refine x_goto (tgt := 15) dX4_isOneTooMany_11 (by decide) ?_
      refine x_iload_n dX4_isOneTooMany_15 2 rfl ?_
      refine x_ifN_ne (tgt := 23) dX4_isOneTooMany_16 (by decide) (by have := hB 0 2; have := hB 0 3; have := hB 0 4; omega) (fun c16 => ?_) (fun c16 => ?_)
      · refine x_pc (pc' := 23) rfl ?_
        refine x_iconst dX4_isOneTooMany_23 ki_0 ?_
        refine x_icmpN_ne (tgt := 76) dX4_isOneTooMany_24 (by decide) (by have := hB 0 2; have := hB 0 3; have := hB 0 4; omega) (by have := hB 0 2; have := hB 0 3; have := hB 0 4; omega) (fun c24 => ?_) (fun c24 => ?_)
        · refine x_iconst dX4_isOneTooMany_76 ki_1 ?_
          refine x_goto (tgt := 81) dX4_isOneTooMany_77 (by decide) ?_
          exact x_zret dX4_isOneTooMany_81 rfl (by first | rfl | decide | exact bI_nar _) (xRet_e (by rw [show tooM hl w bf = true from decide_eq_true (by omega)]; rfl) rfl)
        · exact absurd c24 (by decide)
      · refine x_pc (pc' := 19) rfl ?_
        refine x_iconst dX4_isOneTooMany_19 ki_1 ?_
        refine x_goto (tgt := 24) dX4_isOneTooMany_20 (by decide) ?_
        refine x_icmpN_ne (tgt := 76) dX4_isOneTooMany_24 (by decide) (by have := hB 0 2; have := hB 0 3; have := hB 0 4; omega) (by have := hB 0 2; have := hB 0 3; have := hB 0 4; omega) (fun c24 => ?_) (fun c24 => ?_)
        · exact absurd c24 (by decide)
        · refine x_iload_n dX4_isOneTooMany_27 1 rfl ?_
          refine x_iconst dX4_isOneTooMany_28 ki_1 ?_
          refine x_icmpN_ne (tgt := 43) dX4_isOneTooMany_29 (by decide) (by have := hB 0 2; have := hB 0 3; have := hB 0 4; omega) (by have := hB 0 2; have := hB 0 3; have := hB 0 4; omega) (fun c29 => ?_) (fun c29 => ?_)
          · refine x_iload_n dX4_isOneTooMany_43 1 rfl ?_
            refine x_iconst dX4_isOneTooMany_44 ki_2 ?_
            refine x_icmpN_ne (tgt := 59) dX4_isOneTooMany_45 (by decide) (by have := hB 0 2; have := hB 0 3; have := hB 0 4; omega) (by have := hB 0 2; have := hB 0 3; have := hB 0 4; omega) (fun c45 => ?_) (fun c45 => ?_)
            · refine x_iload_n dX4_isOneTooMany_59 1 rfl ?_
              refine x_pc (pc' := 60) rfl ?_
              refine x_iconst dX4_isOneTooMany_60 ki_4 ?_
              refine x_icmpN_ne (tgt := 80) dX4_isOneTooMany_61 (by decide) (by have := hB 0 2; have := hB 0 3; have := hB 0 4; omega) (by have := hB 0 2; have := hB 0 3; have := hB 0 4; omega) (fun c61 => ?_) (fun c61 => ?_)
              · refine x_iconst dX4_isOneTooMany_80 ki_0 ?_
                exact x_zret dX4_isOneTooMany_81 rfl (by first | rfl | decide | exact bI_nar _) (xRet_e (by rw [show tooM hl w bf = false from decide_eq_false (by omega)]; rfl) rfl)
              · refine x_aload_n dX4_isOneTooMany_64 0 rfl ?_
                refine x_get dX4_isOneTooMany_65 fX4_12 (hW.2.2.1) rfl ?_
                refine x_get dX4_isOneTooMany_68 fX4_92 (hW.2.1.1) rfl ?_
                refine x_bipush dX4_isOneTooMany_71 kb_7 ?_
                refine x_icmpN_lt (tgt := 80) dX4_isOneTooMany_73 (by decide) (by have := hB 0 2; have := hB 0 3; have := hB 0 4; omega) (by have := hB 0 2; have := hB 0 3; have := hB 0 4; omega) (fun c73 => ?_) (fun c73 => ?_)
                · refine x_iconst dX4_isOneTooMany_80 ki_0 ?_
                  exact x_zret dX4_isOneTooMany_81 rfl (by first | rfl | decide | exact bI_nar _) (xRet_e (by rw [show tooM hl w bf = false from decide_eq_false (by omega)]; rfl) rfl)
                · refine x_iconst dX4_isOneTooMany_76 ki_1 ?_
                  refine x_goto (tgt := 81) dX4_isOneTooMany_77 (by decide) ?_
                  exact x_zret dX4_isOneTooMany_81 rfl (by first | rfl | decide | exact bI_nar _) (xRet_e (by rw [show tooM hl w bf = true from decide_eq_true (by omega)]; rfl) rfl)
            · refine x_aload_n dX4_isOneTooMany_48 0 rfl ?_
              refine x_pc (pc' := 49) rfl ?_
              refine x_get dX4_isOneTooMany_49 fX4_12 (hW.2.2.1) rfl ?_
              refine x_get dX4_isOneTooMany_52 fX4_89 (hW.2.1.1) rfl ?_
              refine x_iconst dX4_isOneTooMany_55 ki_4 ?_
              refine x_icmpN_ge (tgt := 76) dX4_isOneTooMany_56 (by decide) (by have := hB 0 2; have := hB 0 3; have := hB 0 4; omega) (by have := hB 0 2; have := hB 0 3; have := hB 0 4; omega) (fun c56 => ?_) (fun c56 => ?_)
              · refine x_iconst dX4_isOneTooMany_76 ki_1 ?_
                refine x_goto (tgt := 81) dX4_isOneTooMany_77 (by decide) ?_
                exact x_zret dX4_isOneTooMany_81 rfl (by first | rfl | decide | exact bI_nar _) (xRet_e (by rw [show tooM hl w bf = true from decide_eq_true (by omega)]; rfl) rfl)
              · refine x_iload_n dX4_isOneTooMany_59 1 rfl ?_
                refine x_iconst dX4_isOneTooMany_60 ki_4 ?_
                refine x_icmpN_ne (tgt := 80) dX4_isOneTooMany_61 (by decide) (by have := hB 0 2; have := hB 0 3; have := hB 0 4; omega) (by have := hB 0 2; have := hB 0 3; have := hB 0 4; omega) (fun c61 => ?_) (fun c61 => ?_)
                · refine x_iconst dX4_isOneTooMany_80 ki_0 ?_
                  exact x_zret dX4_isOneTooMany_81 rfl (by first | rfl | decide | exact bI_nar _) (xRet_e (by rw [show tooM hl w bf = false from decide_eq_false (by omega)]; rfl) rfl)
                · refine x_aload_n dX4_isOneTooMany_64 0 rfl ?_
                  refine x_get dX4_isOneTooMany_65 fX4_12 (hW.2.2.1) rfl ?_
                  refine x_get dX4_isOneTooMany_68 fX4_92 (hW.2.1.1) rfl ?_
                  refine x_pc (pc' := 71) rfl ?_
                  refine x_bipush dX4_isOneTooMany_71 kb_7 ?_
                  refine x_icmpN_lt (tgt := 80) dX4_isOneTooMany_73 (by decide) (by have := hB 0 2; have := hB 0 3; have := hB 0 4; omega) (by have := hB 0 2; have := hB 0 3; have := hB 0 4; omega) (fun c73 => ?_) (fun c73 => ?_)
                  · refine x_iconst dX4_isOneTooMany_80 ki_0 ?_
                    exact x_zret dX4_isOneTooMany_81 rfl (by first | rfl | decide | exact bI_nar _) (xRet_e (by rw [show tooM hl w bf = false from decide_eq_false (by omega)]; rfl) rfl)
                  · refine x_iconst dX4_isOneTooMany_76 ki_1 ?_
                    refine x_goto (tgt := 81) dX4_isOneTooMany_77 (by decide) ?_
                    exact x_zret dX4_isOneTooMany_81 rfl (by first | rfl | decide | exact bI_nar _) (xRet_e (by rw [show tooM hl w bf = true from decide_eq_true (by omega)]; rfl) rfl)
          · refine x_aload_n dX4_isOneTooMany_32 0 rfl ?_
            refine x_get dX4_isOneTooMany_33 fX4_12 (hW.2.2.1) rfl ?_
            refine x_get dX4_isOneTooMany_36 fX4_86 (hW.2.1.1) rfl ?_
            refine x_iconst dX4_isOneTooMany_39 ki_4 ?_
            refine x_pc (pc' := 40) rfl ?_
            refine x_icmpN_ge (tgt := 76) dX4_isOneTooMany_40 (by decide) (by have := hB 0 2; have := hB 0 3; have := hB 0 4; omega) (by have := hB 0 2; have := hB 0 3; have := hB 0 4; omega) (fun c40 => ?_) (fun c40 => ?_)
            · refine x_iconst dX4_isOneTooMany_76 ki_1 ?_
              refine x_goto (tgt := 81) dX4_isOneTooMany_77 (by decide) ?_
              exact x_zret dX4_isOneTooMany_81 rfl (by first | rfl | decide | exact bI_nar _) (xRet_e (by rw [show tooM hl w bf = true from decide_eq_true (by omega)]; rfl) rfl)
            · refine x_iload_n dX4_isOneTooMany_43 1 rfl ?_
              refine x_iconst dX4_isOneTooMany_44 ki_2 ?_
              refine x_icmpN_ne (tgt := 59) dX4_isOneTooMany_45 (by decide) (by have := hB 0 2; have := hB 0 3; have := hB 0 4; omega) (by have := hB 0 2; have := hB 0 3; have := hB 0 4; omega) (fun c45 => ?_) (fun c45 => ?_)
              · refine x_iload_n dX4_isOneTooMany_59 1 rfl ?_
                refine x_iconst dX4_isOneTooMany_60 ki_4 ?_
                refine x_icmpN_ne (tgt := 80) dX4_isOneTooMany_61 (by decide) (by have := hB 0 2; have := hB 0 3; have := hB 0 4; omega) (by have := hB 0 2; have := hB 0 3; have := hB 0 4; omega) (fun c61 => ?_) (fun c61 => ?_)
                · refine x_iconst dX4_isOneTooMany_80 ki_0 ?_
                  exact x_zret dX4_isOneTooMany_81 rfl (by first | rfl | decide | exact bI_nar _) (xRet_e (by rw [show tooM hl w bf = false from decide_eq_false (by omega)]; rfl) rfl)
                · refine x_aload_n dX4_isOneTooMany_64 0 rfl ?_
                  refine x_get dX4_isOneTooMany_65 fX4_12 (hW.2.2.1) rfl ?_
                  refine x_get dX4_isOneTooMany_68 fX4_92 (hW.2.1.1) rfl ?_
                  refine x_pc (pc' := 71) rfl ?_
                  refine x_bipush dX4_isOneTooMany_71 kb_7 ?_
                  refine x_icmpN_lt (tgt := 80) dX4_isOneTooMany_73 (by decide) (by have := hB 0 2; have := hB 0 3; have := hB 0 4; omega) (by have := hB 0 2; have := hB 0 3; have := hB 0 4; omega) (fun c73 => ?_) (fun c73 => ?_)
                  · refine x_iconst dX4_isOneTooMany_80 ki_0 ?_
                    exact x_zret dX4_isOneTooMany_81 rfl (by first | rfl | decide | exact bI_nar _) (xRet_e (by rw [show tooM hl w bf = false from decide_eq_false (by omega)]; rfl) rfl)
                  · refine x_iconst dX4_isOneTooMany_76 ki_1 ?_
                    refine x_goto (tgt := 81) dX4_isOneTooMany_77 (by decide) ?_
                    exact x_zret dX4_isOneTooMany_81 rfl (by first | rfl | decide | exact bI_nar _) (xRet_e (by rw [show tooM hl w bf = true from decide_eq_true (by omega)]; rfl) rfl)
              · refine x_aload_n dX4_isOneTooMany_48 0 rfl ?_
                refine x_get dX4_isOneTooMany_49 fX4_12 (hW.2.2.1) rfl ?_
                refine x_get dX4_isOneTooMany_52 fX4_89 (hW.2.1.1) rfl ?_
                refine x_iconst dX4_isOneTooMany_55 ki_4 ?_
                refine x_icmpN_ge (tgt := 76) dX4_isOneTooMany_56 (by decide) (by have := hB 0 2; have := hB 0 3; have := hB 0 4; omega) (by have := hB 0 2; have := hB 0 3; have := hB 0 4; omega) (fun c56 => ?_) (fun c56 => ?_)
                · refine x_iconst dX4_isOneTooMany_76 ki_1 ?_
                  refine x_pc (pc' := 77) rfl ?_
                  refine x_goto (tgt := 81) dX4_isOneTooMany_77 (by decide) ?_
                  exact x_zret dX4_isOneTooMany_81 rfl (by first | rfl | decide | exact bI_nar _) (xRet_e (by rw [show tooM hl w bf = true from decide_eq_true (by omega)]; rfl) rfl)
                · refine x_iload_n dX4_isOneTooMany_59 1 rfl ?_
                  refine x_pc (pc' := 60) rfl ?_
                  refine x_iconst dX4_isOneTooMany_60 ki_4 ?_
                  refine x_icmpN_ne (tgt := 80) dX4_isOneTooMany_61 (by decide) (by have := hB 0 2; have := hB 0 3; have := hB 0 4; omega) (by have := hB 0 2; have := hB 0 3; have := hB 0 4; omega) (fun c61 => ?_) (fun c61 => ?_)
                  · refine x_iconst dX4_isOneTooMany_80 ki_0 ?_
                    exact x_zret dX4_isOneTooMany_81 rfl (by first | rfl | decide | exact bI_nar _) (xRet_e (by rw [show tooM hl w bf = false from decide_eq_false (by omega)]; rfl) rfl)
                  · refine x_aload_n dX4_isOneTooMany_64 0 rfl ?_
                    refine x_get dX4_isOneTooMany_65 fX4_12 (hW.2.2.1) rfl ?_
                    refine x_get dX4_isOneTooMany_68 fX4_92 (hW.2.1.1) rfl ?_
                    refine x_bipush dX4_isOneTooMany_71 kb_7 ?_
                    refine x_icmpN_lt (tgt := 80) dX4_isOneTooMany_73 (by decide) (by have := hB 0 2; have := hB 0 3; have := hB 0 4; omega) (by have := hB 0 2; have := hB 0 3; have := hB 0 4; omega) (fun c73 => ?_) (fun c73 => ?_)
                    · refine x_iconst dX4_isOneTooMany_80 ki_0 ?_
                      exact x_zret dX4_isOneTooMany_81 rfl (by first | rfl | decide | exact bI_nar _) (xRet_e (by rw [show tooM hl w bf = false from decide_eq_false (by omega)]; rfl) rfl)
                    · refine x_iconst dX4_isOneTooMany_76 ki_1 ?_
                      refine x_goto (tgt := 81) dX4_isOneTooMany_77 (by decide) ?_
                      exact x_zret dX4_isOneTooMany_81 rfl (by first | rfl | decide | exact bI_nar _) (xRet_e (by rw [show tooM hl w bf = true from decide_eq_true (by omega)]; rfl) rfl)
theorem Hr_sort {K : xG} {h b tx n : Nat} {G0 G : xHp} {tp : Nat → Nat} {p : Nat} {hl : xHl} (hW : HRd G0 G b tx n tp 0 p hl (nI (hl 0 0)) (nI (hl 0 1))) (h9 : ∀ j, hl 1 j ≤ 9) (hs : hl 0 2 < 4) : xCall K mX4_readSort 2 0 0 [.ref b] h G (xEx (fun G' => HRp G0 G' b tx n tp (rsoP tp n p hl)) (fun _ => none) (fun _ => h) (fun G' => G')) := by
  refine x_entry (by decide) (ls := [(0, .ref b)]) rfl (Nat.le_of_ble_eq_true rfl) ?_
  have hB := hW.2.1.2.2.2.2.2.2.2.2
  have b2 := hB 0 2
  have b3 := hB 0 3
  have b4 := hB 0 4
  obtain ⟨u2, u3, u4, u5, u6, hc⟩ := hW.1.cell
  refine x_aload_n dX4_readSort_0 0 rfl ?_
  refine x_get dX4_readSort_1 fX4_23 (hW.2.2.1) rfl ?_
  refine x_iconst dX4_readSort_4 ki_0 ?_
  refine x_bipush dX4_readSort_5 kb_9 ?_
  refine x_cVe (N := mX7_takeNumber) (d' := 1) (mc := 0) (ms := 0) (cb := 0) (sb := 0) (As := [.int (nI 0), .int (nI 9)]) (st := []) dX4_readSort_7 mX7_takeNumber_v lX4_64 rfl rfl (hc) rfl (by decide) (Nat.le_of_ble_eq_true rfl) (hW.tn) rfl (sf := fun e1 => [.int e1.1]) (fun _ => rfl) (fun e1 hq1 => ?_)
  obtain ⟨v1, G1⟩ := e1
  obtain ⟨q1, hW1⟩ := hq1
  simp only at q1 hW1
  rcases h1 : tnP tp n 0 p (nI 0) (nI 9) with ⟨f1, p1⟩
  rw [h1] at hW1
  simp only at hW1
  obtain ⟨u21, u31, u41, u51, u61, hc1⟩ := hW1.1.cell
  refine x_istore_n (ls' := [(1, .int v1), (0, .ref b)]) dX4_readSort_10 (by decide) rfl ?_
  refine x_aload_n dX4_readSort_11 1 rfl ?_
  refine x_get dX4_readSort_12 fX4_23 (hW1.2.2.1) rfl ?_
  refine x_iconst dX4_readSort_15 ki_0 ?_
  refine x_pc (pc' := 16) rfl ?_
  refine x_bipush dX4_readSort_16 kb_9 ?_
  refine x_cVe (N := mX7_takeNumber) (d' := 1) (mc := 0) (ms := 0) (cb := 0) (sb := 0) (As := [.int (nI 0), .int (nI 9)]) (st := []) dX4_readSort_18 mX7_takeNumber_v lX4_64 rfl rfl (hc1) rfl (by decide) (Nat.le_of_ble_eq_true rfl) (hW1.tn) rfl (sf := fun e2 => [.int e2.1]) (fun _ => rfl) (fun e2 hq2 => ?_)
  obtain ⟨v2, G2⟩ := e2
  obtain ⟨q2, hW2⟩ := hq2
  simp only at q2 hW2
  rcases h2 : tnP tp n f1 p1 (nI 0) (nI 9) with ⟨f2, p2⟩
  rw [h2] at hW2
  simp only at hW2
  obtain ⟨u22, u32, u42, u52, u62, hc2⟩ := hW2.1.cell
  refine x_istore_n (ls' := [(2, .int v2), (1, .int v1), (0, .ref b)]) dX4_readSort_21 (by decide) rfl ?_
  refine x_aload_n dX4_readSort_22 2 rfl ?_
  refine x_get dX4_readSort_23 fX4_23 (hW2.2.2.1) rfl ?_
  refine x_get dX4_readSort_26 fX4_47 (hc2) rfl ?_
  refine x_ifN_ne (tgt := 41) dX4_readSort_29 (by decide) (by have := hW2.1.f_lt; omega) (fun c29 => ?_) (fun c29 => ?_)
  · exact x_vret dX4_readSort_41 rfl (xEx_i G2 (Or.inr ⟨by simp only [rsoP, h1, h2]; exact c29, hl, nI (hl 0 0), nI (hl 0 1), h9, by simp only [rsoP, h1, h2]; exact hW2⟩) rfl rfl rfl)
  · subst c29
    obtain ⟨z2, v2e, l2, m2, n2, -, -⟩ := tn_ok h2 q2 (by decide)
    subst z2
    obtain ⟨z1, v1e, l1, m1, n1, -, -⟩ := tn_ok h1 (fun _ => q1 trivial) (by decide)
    have r1 := hi_c n1 (by omega) m1
    have r2 := hi_c n2 (by omega) m2
    refine x_leq (ls' := [(2, .int (nI (nmN tp n p1))), (1, .int (nI (nmN tp n p))), (0, .ref b)]) (by rw [v1e, v2e]) ?_
    refine x_aload_n dX4_readSort_32 2 rfl ?_
    refine x_get dX4_readSort_33 fX4_12 (hW2.2.2.1) rfl ?_
    refine x_iload_n dX4_readSort_36 1 rfl ?_
    refine x_pc (pc' := 37) rfl ?_
    refine x_iload_n dX4_readSort_37 0 rfl ?_
    refine x_cVe (N := mX3_addSort) (d' := 0) (mc := 0) (ms := 0) (cb := 0) (sb := 0) (As := [.int (nI (nmN tp n p)), .int (nI (nmN tp n p1))]) (st := []) dX4_readSort_38 mX3_addSort_v lX4_95 rfl rfl (hW2.2.1.1) rfl (by decide) (Nat.le_of_ble_eq_true rfl) (hW2.hq (Hall_addSort hW2.2.1.to hs (by omega) (by omega))) rfl (sf := fun Gz => []) (fun _ => rfl) (fun Gz hWz => ?_)
    exact x_vret dX4_readSort_41 rfl (xEx_i Gz (Or.inl ⟨by simp only [rsoP, h1, h2], by simp only [rsoP, h1, h2]; exact hWz⟩) rfl rfl rfl)
theorem Hr_skill {K : xG} {h b tx n : Nat} {G0 G : xHp} {tp : Nat → Nat} {p : Nat} {hl : xHl} (hW : HRd G0 G b tx n tp 0 p hl (nI (hl 0 0)) (nI (hl 0 1))) (h9 : ∀ j, hl 1 j ≤ 9) (hs2 : hl 0 2 ≤ 4) (hs3 : hl 0 3 ≤ 4) : xCall K mX4_readSkill 2 0 0 [.ref b] h G (xEx (fun G' => HRp G0 G' b tx n tp (rskP tp n p hl)) (fun _ => none) (fun _ => h) (fun G' => G')) := by
  refine x_entry (by decide) (ls := [(0, .ref b)]) rfl (Nat.le_of_ble_eq_true rfl) ?_
  have hB := hW.2.1.2.2.2.2.2.2.2.2
  have b2 := hB 0 2
  have b3 := hB 0 3
  have b4 := hB 0 4
  obtain ⟨u2, u3, u4, u5, u6, hc⟩ := hW.1.cell
  refine x_aload_n dX4_readSkill_0 0 rfl ?_
  refine x_get dX4_readSkill_1 fX4_23 (hW.2.2.1) rfl ?_
  refine x_iconst dX4_readSkill_4 ki_0 ?_
  refine x_aload_n dX4_readSkill_5 0 rfl ?_
  refine x_get dX4_readSkill_6 fX4_12 (hW.2.2.1) rfl ?_
  refine x_get dX4_readSkill_9 fX4_89 (hW.2.1.1) rfl ?_
  refine x_iconst dX4_readSkill_12 ki_1 ?_
  refine x_isub dX4_readSkill_13 ?_
  refine x_cVe (N := mX7_takeNumber) (d' := 1) (mc := 0) (ms := 0) (cb := 0) (sb := 0) (As := [.int (nI 0), .int ((nI (hl 0 3)) - (nI 1))]) (st := []) dX4_readSkill_14 mX7_takeNumber_v lX4_64 rfl rfl (hc) rfl (by decide) (Nat.le_of_ble_eq_true rfl) (hW.tn) rfl (sf := fun e1 => [.int e1.1]) (fun _ => rfl) (fun e1 hq1 => ?_)
  obtain ⟨v1, G1⟩ := e1
  obtain ⟨q1, hW1⟩ := hq1
  simp only at q1 hW1
  rcases h1 : tnP tp n 0 p (nI 0) ((nI (hl 0 3)) - (nI 1)) with ⟨f1, p1⟩
  rw [h1] at hW1
  simp only at hW1
  obtain ⟨u21, u31, u41, u51, u61, hc1⟩ := hW1.1.cell
  refine x_pc (pc' := 17) rfl ?_
  refine x_istore_n (ls' := [(1, .int v1), (0, .ref b)]) dX4_readSkill_17 (by decide) rfl ?_
  refine x_aload_n dX4_readSkill_18 1 rfl ?_
  refine x_get dX4_readSkill_19 fX4_23 (hW1.2.2.1) rfl ?_
  refine x_iconst dX4_readSkill_22 ki_0 ?_
  refine x_aload_n dX4_readSkill_23 1 rfl ?_
  refine x_get dX4_readSkill_24 fX4_12 (hW1.2.2.1) rfl ?_
  refine x_get dX4_readSkill_27 fX4_86 (hW1.2.1.1) rfl ?_
  refine x_iconst dX4_readSkill_30 ki_1 ?_
  refine x_isub dX4_readSkill_31 ?_
  refine x_cVe (N := mX7_takeNumber) (d' := 1) (mc := 0) (ms := 0) (cb := 0) (sb := 0) (As := [.int (nI 0), .int ((nI (hl 0 2)) - (nI 1))]) (st := []) dX4_readSkill_32 mX7_takeNumber_v lX4_64 rfl rfl (hc1) rfl (by decide) (Nat.le_of_ble_eq_true rfl) (hW1.tn) rfl (sf := fun e2 => [.int e2.1]) (fun _ => rfl) (fun e2 hq2 => ?_)
  obtain ⟨v2, G2⟩ := e2
  obtain ⟨q2, hW2⟩ := hq2
  simp only at q2 hW2
  rcases h2 : tnP tp n f1 p1 (nI 0) ((nI (hl 0 2)) - (nI 1)) with ⟨f2, p2⟩
  rw [h2] at hW2
  simp only at hW2
  obtain ⟨u22, u32, u42, u52, u62, hc2⟩ := hW2.1.cell
  refine x_pc (pc' := 35) rfl ?_
  refine x_istore_n (ls' := [(2, .int v2), (1, .int v1), (0, .ref b)]) dX4_readSkill_35 (by decide) rfl ?_
  refine x_aload_n dX4_readSkill_36 2 rfl ?_
  refine x_get dX4_readSkill_37 fX4_23 (hW2.2.2.1) rfl ?_
  refine x_iconst dX4_readSkill_40 ki_1 ?_
  refine x_bipush dX4_readSkill_41 kb_60 ?_
  refine x_cVe (N := mX7_takeNumber) (d' := 1) (mc := 0) (ms := 0) (cb := 0) (sb := 0) (As := [.int (nI 1), .int (nI 60)]) (st := []) dX4_readSkill_43 mX7_takeNumber_v lX4_64 rfl rfl (hc2) rfl (by decide) (Nat.le_of_ble_eq_true rfl) (hW2.tn) rfl (sf := fun e3 => [.int e3.1]) (fun _ => rfl) (fun e3 hq3 => ?_)
  obtain ⟨v3, G3⟩ := e3
  obtain ⟨q3, hW3⟩ := hq3
  simp only at q3 hW3
  rcases h3 : tnP tp n f2 p2 (nI 1) (nI 60) with ⟨f3, p3⟩
  rw [h3] at hW3
  simp only at hW3
  obtain ⟨u23, u33, u43, u53, u63, hc3⟩ := hW3.1.cell
  refine x_istore_n (ls' := [(3, .int v3), (2, .int v2), (1, .int v1), (0, .ref b)]) dX4_readSkill_46 (by decide) rfl ?_
  refine x_aload_n dX4_readSkill_47 3 rfl ?_
  refine x_get dX4_readSkill_48 fX4_23 (hW3.2.2.1) rfl ?_
  refine x_get dX4_readSkill_51 fX4_47 (hc3) rfl ?_
  refine x_pc (pc' := 54) rfl ?_
  refine x_ifN_ne (tgt := 67) dX4_readSkill_54 (by decide) (by have := hW3.1.f_lt; omega) (fun c54 => ?_) (fun c54 => ?_)
  · exact x_vret dX4_readSkill_67 rfl (xEx_i G3 (Or.inr ⟨by simp only [rskP, h1, h2, h3]; exact c54, hl, nI (hl 0 0), nI (hl 0 1), h9, by simp only [rskP, h1, h2, h3]; exact hW3⟩) rfl rfl rfl)
  · subst c54
    obtain ⟨z3, v3e, l3, m3, n3, -, -⟩ := tn_ok h3 q3 (by decide)
    subst z3
    obtain ⟨z2, v2e, l2, m2, n2, -, -⟩ := tn_ok h2 q2 (by decide)
    subst z2
    obtain ⟨z1, v1e, l1, m1, n1, -, -⟩ := tn_ok h1 (fun _ => q1 trivial) (by decide)
    have r1 := hi_m1 n1 (by omega) m1
    have r2 := hi_m1 n2 (by omega) m2
    have r3 := hi_c n3 (by omega) m3
    refine x_leq (ls' := [(3, .int (nI (nmN tp n p2))), (2, .int (nI (nmN tp n p1))), (1, .int (nI (nmN tp n p))), (0, .ref b)]) (by rw [v1e, v2e, v3e]) ?_
    refine x_aload_n dX4_readSkill_57 3 rfl ?_
    refine x_get dX4_readSkill_58 fX4_12 (hW3.2.2.1) rfl ?_
    refine x_iload_n dX4_readSkill_61 2 rfl ?_
    refine x_iload_n dX4_readSkill_62 1 rfl ?_
    refine x_iload_n dX4_readSkill_63 0 rfl ?_
    refine x_cVe (N := mX3_setSkill) (d' := 1) (mc := 0) (ms := 0) (cb := 0) (sb := 0) (As := [.int (nI (nmN tp n p)), .int (nI (nmN tp n p1)), .int (nI (nmN tp n p2))]) (st := []) dX4_readSkill_64 mX3_setSkill_v lX4_99 rfl rfl (hW3.2.1.1) rfl (by decide) (Nat.le_of_ble_eq_true rfl) (hW3.hq (Hall_setSkill hW3.2.1.to r1 r2 hs3 hs2 (by omega))) rfl (sf := fun Gz => []) (fun _ => rfl) (fun Gz hWz => ?_)
    exact x_vret dX4_readSkill_67 rfl (xEx_i Gz (Or.inl ⟨by simp only [rskP, h1, h2, h3], by simp only [rskP, h1, h2, h3]; exact hWz⟩) rfl rfl rfl)
theorem Hr_thing {K : xG} {h b tx n : Nat} {G0 G : xHp} {tp : Nat → Nat} {p : Nat} {hl : xHl} (hW : HRd G0 G b tx n tp 0 p hl (nI (hl 0 0)) (nI (hl 0 1))) (h9 : ∀ j, hl 1 j ≤ 9) (hs2 : hl 0 2 ≤ 4) (hs : hl 0 4 < 7) : xCall K mX4_readThing 2 0 0 [.ref b] h G (xEx (fun G' => HRp G0 G' b tx n tp (rthP tp n p hl)) (fun _ => none) (fun _ => h) (fun G' => G')) := by
  refine x_entry (by decide) (ls := [(0, .ref b)]) rfl (Nat.le_of_ble_eq_true rfl) ?_
  have hB := hW.2.1.2.2.2.2.2.2.2.2
  have b2 := hB 0 2
  have b3 := hB 0 3
  have b4 := hB 0 4
  obtain ⟨u2, u3, u4, u5, u6, hc⟩ := hW.1.cell
  refine x_aload_n dX4_readThing_0 0 rfl ?_
  refine x_get dX4_readThing_1 fX4_23 (hW.2.2.1) rfl ?_
  refine x_iconst dX4_readThing_4 ki_0 ?_
  refine x_aload_n dX4_readThing_5 0 rfl ?_
  refine x_get dX4_readThing_6 fX4_12 (hW.2.2.1) rfl ?_
  refine x_get dX4_readThing_9 fX4_86 (hW.2.1.1) rfl ?_
  refine x_iconst dX4_readThing_12 ki_1 ?_
  refine x_isub dX4_readThing_13 ?_
  refine x_cVe (N := mX7_takeNumber) (d' := 1) (mc := 0) (ms := 0) (cb := 0) (sb := 0) (As := [.int (nI 0), .int ((nI (hl 0 2)) - (nI 1))]) (st := []) dX4_readThing_14 mX7_takeNumber_v lX4_64 rfl rfl (hc) rfl (by decide) (Nat.le_of_ble_eq_true rfl) (hW.tn) rfl (sf := fun e1 => [.int e1.1]) (fun _ => rfl) (fun e1 hq1 => ?_)
  obtain ⟨v1, G1⟩ := e1
  obtain ⟨q1, hW1⟩ := hq1
  simp only at q1 hW1
  rcases h1 : tnP tp n 0 p (nI 0) ((nI (hl 0 2)) - (nI 1)) with ⟨f1, p1⟩
  rw [h1] at hW1
  simp only at hW1
  obtain ⟨u21, u31, u41, u51, u61, hc1⟩ := hW1.1.cell
  refine x_pc (pc' := 17) rfl ?_
  refine x_istore_n (ls' := [(1, .int v1), (0, .ref b)]) dX4_readThing_17 (by decide) rfl ?_
  refine x_aload_n dX4_readThing_18 1 rfl ?_
  refine x_get dX4_readThing_19 fX4_23 (hW1.2.2.1) rfl ?_
  refine x_iconst dX4_readThing_22 ki_0 ?_
  refine x_sipush dX4_readThing_23 ks_299 ?_
  refine x_cVe (N := mX7_takeNumber) (d' := 1) (mc := 0) (ms := 0) (cb := 0) (sb := 0) (As := [.int (nI 0), .int (nI 299)]) (st := []) dX4_readThing_26 mX7_takeNumber_v lX4_64 rfl rfl (hc1) rfl (by decide) (Nat.le_of_ble_eq_true rfl) (hW1.tn) rfl (sf := fun e2 => [.int e2.1]) (fun _ => rfl) (fun e2 hq2 => ?_)
  obtain ⟨v2, G2⟩ := e2
  obtain ⟨q2, hW2⟩ := hq2
  simp only at q2 hW2
  rcases h2 : tnP tp n f1 p1 (nI 0) (nI 299) with ⟨f2, p2⟩
  rw [h2] at hW2
  simp only at hW2
  obtain ⟨u22, u32, u42, u52, u62, hc2⟩ := hW2.1.cell
  refine x_istore_n (ls' := [(2, .int v2), (1, .int v1), (0, .ref b)]) dX4_readThing_29 (by decide) rfl ?_
  refine x_aload_n dX4_readThing_30 2 rfl ?_
  refine x_get dX4_readThing_31 fX4_23 (hW2.2.2.1) rfl ?_
  refine x_iconst dX4_readThing_34 ki_1 ?_
  refine x_pc (pc' := 35) rfl ?_
  refine x_bipush dX4_readThing_35 kb_30 ?_
  refine x_cVe (N := mX7_takeNumber) (d' := 1) (mc := 0) (ms := 0) (cb := 0) (sb := 0) (As := [.int (nI 1), .int (nI 30)]) (st := []) dX4_readThing_37 mX7_takeNumber_v lX4_64 rfl rfl (hc2) rfl (by decide) (Nat.le_of_ble_eq_true rfl) (hW2.tn) rfl (sf := fun e3 => [.int e3.1]) (fun _ => rfl) (fun e3 hq3 => ?_)
  obtain ⟨v3, G3⟩ := e3
  obtain ⟨q3, hW3⟩ := hq3
  simp only at q3 hW3
  rcases h3 : tnP tp n f2 p2 (nI 1) (nI 30) with ⟨f3, p3⟩
  rw [h3] at hW3
  simp only at hW3
  obtain ⟨u23, u33, u43, u53, u63, hc3⟩ := hW3.1.cell
  refine x_istore_n (ls' := [(3, .int v3), (2, .int v2), (1, .int v1), (0, .ref b)]) dX4_readThing_40 (by decide) rfl ?_
  refine x_aload_n dX4_readThing_41 3 rfl ?_
  refine x_get dX4_readThing_42 fX4_23 (hW3.2.2.1) rfl ?_
  refine x_iconst dX4_readThing_45 ki_0 ?_
  refine x_iconst dX4_readThing_46 ki_1 ?_
  refine x_cVe (N := mX7_takeNumber) (d' := 1) (mc := 0) (ms := 0) (cb := 0) (sb := 0) (As := [.int (nI 0), .int (nI 1)]) (st := []) dX4_readThing_47 mX7_takeNumber_v lX4_64 rfl rfl (hc3) rfl (by decide) (Nat.le_of_ble_eq_true rfl) (hW3.tn) rfl (sf := fun e4 => [.int e4.1]) (fun _ => rfl) (fun e4 hq4 => ?_)
  obtain ⟨v4, G4⟩ := e4
  obtain ⟨q4, hW4⟩ := hq4
  simp only at q4 hW4
  rcases h4 : tnP tp n f3 p3 (nI 0) (nI 1) with ⟨f4, p4⟩
  rw [h4] at hW4
  simp only at hW4
  obtain ⟨u24, u34, u44, u54, u64, hc4⟩ := hW4.1.cell
  refine x_istore (ls' := [(4, .int v4), (3, .int v3), (2, .int v2), (1, .int v1), (0, .ref b)]) dX4_readThing_50 (by decide) rfl ?_
  refine x_aload_n dX4_readThing_52 4 rfl ?_
  refine x_pc (pc' := 53) rfl ?_
  refine x_get dX4_readThing_53 fX4_23 (hW4.2.2.1) rfl ?_
  refine x_get dX4_readThing_56 fX4_47 (hc4) rfl ?_
  refine x_ifN_ne (tgt := 74) dX4_readThing_59 (by decide) (by have := hW4.1.f_lt; omega) (fun c59 => ?_) (fun c59 => ?_)
  · exact x_vret dX4_readThing_74 rfl (xEx_i G4 (Or.inr ⟨by simp only [rthP, h1, h2, h3, h4]; exact c59, hl, nI (hl 0 0), nI (hl 0 1), h9, by simp only [rthP, h1, h2, h3, h4]; exact hW4⟩) rfl rfl rfl)
  · subst c59
    obtain ⟨z4, v4e, l4, m4, n4, -, -⟩ := tn_ok h4 q4 (by decide)
    subst z4
    obtain ⟨z3, v3e, l3, m3, n3, -, -⟩ := tn_ok h3 q3 (by decide)
    subst z3
    obtain ⟨z2, v2e, l2, m2, n2, -, -⟩ := tn_ok h2 q2 (by decide)
    subst z2
    obtain ⟨z1, v1e, l1, m1, n1, -, -⟩ := tn_ok h1 (fun _ => q1 trivial) (by decide)
    have r1 := hi_m1 n1 (by omega) m1
    have r2 := hi_c n2 (by omega) m2
    have r3 := hi_c n3 (by omega) m3
    have r4 := hi_c n4 (by omega) m4
    refine x_leq (ls' := [(4, .int (nI (nmN tp n p3))), (3, .int (nI (nmN tp n p2))), (2, .int (nI (nmN tp n p1))), (1, .int (nI (nmN tp n p))), (0, .ref b)]) (by rw [v1e, v2e, v3e, v4e]) ?_
    refine x_aload_n dX4_readThing_62 4 rfl ?_
    refine x_get dX4_readThing_63 fX4_12 (hW4.2.2.1) rfl ?_
    refine x_iload_n dX4_readThing_66 3 rfl ?_
    refine x_iload_n dX4_readThing_67 2 rfl ?_
    refine x_iload_n dX4_readThing_68 1 rfl ?_
    refine x_iload dX4_readThing_69 0 rfl ?_
    refine x_cVe (N := mX3_addThing) (d' := 0) (mc := 0) (ms := 0) (cb := 0) (sb := 0) (As := [.int (nI (nmN tp n p)), .int (nI (nmN tp n p1)), .int (nI (nmN tp n p2)), .int (nI (nmN tp n p3))]) (st := []) dX4_readThing_71 mX3_addThing_v lX4_103 rfl rfl (hW4.2.1.1) rfl (by decide) (Nat.le_of_ble_eq_true rfl) (hW4.hq (Hall_addThing hW4.2.1.to hs (by omega) (by omega) (by omega) (by omega))) rfl (sf := fun Gz => []) (fun _ => rfl) (fun Gz hWz => ?_)
    refine x_pc (pc' := 74) rfl ?_
    exact x_vret dX4_readThing_74 rfl (xEx_i Gz (Or.inl ⟨by simp only [rthP, h1, h2, h3, h4], by simp only [rthP, h1, h2, h3, h4]; exact hWz⟩) rfl rfl rfl)
theorem Hr_clause {K : xG} {h b tx n : Nat} {G0 G : xHp} {tp : Nat → Nat} {p : Nat} {hl : xHl} {e wv : Int32} {bf : Nat} (hW : HRd G0 G b tx n tp 0 p hl e wv) (hfe : bf ≠ 0 → e = nI (hl 0 0) ∧ wv = nI (hl 0 1)) (hcn : CntOk hl) (h9 : ∀ j, hl 1 j ≤ 9) (hb : bf < 1000) : xCall K mX4_readClause 5 0 0 [.ref b, .int (nI bf)] h G (xEx (fun G' => HRp G0 G' b tx n tp (clP tp n 0 p hl bf)) (fun _ => none) (fun _ => h) (fun G' => G')) := by
  refine x_entry (by decide) (ls := [(0, .ref b), (1, .int (nI bf))]) rfl (Nat.le_of_ble_eq_true rfl) ?_
  have hB := hW.2.1.2.2.2.2.2.2.2.2
  have b2 := hB 0 2
  have b3 := hB 0 3
  have b4 := hB 0 4
  have htx := hW.2.2.2.2
  obtain ⟨k2, k3, k4⟩ := hcn
  obtain ⟨u2, u3, u4, u5, u6, hc⟩ := hW.1.cell
  refine x_aload_n dX4_readClause_0 0 rfl ?_
  refine x_get dX4_readClause_1 fX4_23 (hW.2.2.1) rfl ?_
  refine x_ldcS 0 (by decide) rfl rfl dX4_readClause_4 ?_
  refine x_cV (N := mX7_wordIn) (d' := 4) (mc := 0) (ms := 0) (cb := 0) (sb := 0) (As := [.ref (K.2.2.2.2.1 0)]) (st := []) dX4_readClause_6 mX7_wordIn_v lX4_53 rfl rfl (hc) rfl (by decide) (Nat.le_of_ble_eq_true rfl) (Rd_wordIn hW.1 (by omega) (by decide)) rfl (st1 := [.int (chI (wiO tp n 0 p (wl 0)))]) rfl ?_
  refine x_istore_n (ls' := [(2, .int (chI (wiO tp n 0 p (wl 0)))), (0, .ref b), (1, .int (nI bf))]) dX4_readClause_9 (by decide) rfl ?_
  rcases hw : wiO tp n 0 p (wl 0) with _ | w
  · refine x_leq (ls' := [(2, .int (-1)), (0, .ref b), (1, .int (nI bf))]) rfl ?_
    have hcl : clP tp n 0 p hl bf = (flP tp n 0 p 0, p, hl) := by unfold clP; rw [hw]
    refine x_iload_n dX4_readClause_10 0 rfl ?_
    refine x_iconst dX4_readClause_11 ki_m1 ?_
    refine x_icmp_ne (x := (-1)) (y := (-1)) (tgt := 24) dX4_readClause_12 (by decide) (fun c12 => ?_) (fun c12 => ?_)
    · exact absurd rfl c12
    · refine x_aload_n dX4_readClause_15 1 rfl ?_
      refine x_pc (pc' := 16) rfl ?_
      refine x_get dX4_readClause_16 fX4_23 (hW.2.2.1) rfl ?_
      refine x_iconst dX4_readClause_19 ki_0 ?_
      refine x_cVe (N := mX7_fail) (d' := 0) (mc := 0) (ms := 0) (cb := 0) (sb := 0) (As := [.int (nI 0)]) (st := []) dX4_readClause_20 mX7_fail_v lX4_57 rfl rfl (hc) rfl (by decide) (Nat.le_of_ble_eq_true rfl) (hW.fl (by decide)) rfl (sf := fun G1 => []) (fun _ => rfl) (fun G1 hW1 => ?_)
      exact x_vret dX4_readClause_23 rfl (xEx_i G1 (by rw [hcl]; exact Or.inr ⟨flP_ne, hl, e, wv, h9, hW1⟩) rfl rfl rfl)
  · refine x_leq (ls' := [(2, .int (nI w)), (0, .ref b), (1, .int (nI bf))]) rfl ?_
    have hw4 := (wiO_cnt hw).2.2
    rw [wl0_cnt] at hw4
    refine x_iload_n dX4_readClause_10 0 rfl ?_
    refine x_iconst dX4_readClause_11 ki_m1 ?_
    refine x_icmp_ne (x := nI w) (y := (-1)) (tgt := 24) dX4_readClause_12 (by decide) (fun c12 => ?_) (fun c12 => ?_)
    · refine x_aload_n dX4_readClause_24 1 rfl ?_
      refine x_pc (pc' := 25) rfl ?_
      refine x_iload_n dX4_readClause_25 0 rfl ?_
      refine x_iload_n dX4_readClause_26 2 rfl ?_
      refine x_cV (N := mX4_isOneTooMany) (d' := 0) (mc := 0) (ms := 0) (cb := 0) (sb := 0) (As := [.int (nI w), .int (nI bf)]) (st := []) dX4_readClause_27 mX4_isOneTooMany_v lX4_60 rfl rfl (hW.2.2.1) rfl (by decide) (Nat.le_of_ble_eq_true rfl) (Hr_tooM hW (by omega) hb) rfl (st1 := [.int (bI (tooM hl w bf))]) rfl ?_
      refine x_ifB_eq (tgt := 42) dX4_readClause_30 (by decide) (fun c30 => ?_) (fun c30 => ?_)
      · refine x_aload_n dX4_readClause_42 1 rfl ?_
        refine x_get dX4_readClause_43 fX4_23 (hW.2.2.1) rfl ?_
        refine x_cVe (N := mX7_next) (d' := 0) (mc := 0) (ms := 0) (cb := 0) (sb := 0) (As := []) (st := []) dX4_readClause_46 mX7_next_v lX4_41 rfl rfl (hc) rfl (by decide) (Nat.le_of_ble_eq_true rfl) (hW.nx) rfl (sf := fun G1 => []) (fun _ => rfl) (fun G1 hW1 => ?_)
        have ht := of_decide_eq_false c30
        obtain ⟨u21, u31, u41, u51, u61, hc1⟩ := hW1.1.cell
        refine x_iload_n dX4_readClause_49 0 rfl ?_
        rcases xsw_0_4 (nI w) with c50 | c50 | c50 | c50 | c50
        · refine x_tableIn (tgt := 80) (off := 30) dX4_readClause_50 (by rw [c50]; decide) (by rw [c50]; decide) (by rw [c50]; rfl) (by decide) ?_
          have hwk : w = 0 := (nI_eq (by omega) (by decide)).mp c50
          subst hwk
          have hcl : clP tp n 0 p hl bf = rhaP tp n (atA tp n (skP tp n p)) hl := by unfold clP; rw [hw]; simp only; rw [if_neg (by rw [c30]; decide)]; simp only [reduceIte]
          refine x_aload_n dX4_readClause_80 1 rfl ?_
          refine x_pc (pc' := 81) rfl ?_
          refine x_get dX4_readClause_81 fX4_12 (hW1.2.2.1) rfl ?_
          refine x_aload_n dX4_readClause_84 1 rfl ?_
          refine x_get dX4_readClause_85 fX4_23 (hW1.2.2.1) rfl ?_
          refine x_iconst dX4_readClause_88 ki_1 ?_
          refine x_sipush dX4_readClause_89 ks_300 ?_
          refine x_cVe (N := mX7_takeNumber) (d' := 1) (mc := 0) (ms := 0) (cb := 0) (sb := 0) (As := [.int (nI 1), .int (nI 300)]) (st := [.ref (b + 1)]) dX4_readClause_92 mX7_takeNumber_v lX4_64 rfl rfl (hc1) rfl (by decide) (Nat.le_of_ble_eq_true rfl) (hW1.tn) rfl (sf := fun e2 => [.int e2.1, .ref (b + 1)]) (fun _ => rfl) (fun e2 hq2 => ?_)
          obtain ⟨v2, G2⟩ := e2
          obtain ⟨q2, hW2⟩ := hq2
          simp only at q2 hW2
          rcases h2 : tnP tp n 0 (atA tp n (skP tp n p)) (nI 1) (nI 300) with ⟨f2, p2⟩
          rw [h2] at hW2
          simp only at hW2
          obtain ⟨u22, u32, u42, u52, u62, hc2⟩ := hW2.1.cell
          refine x_put (fs' := [.int v2, .int wv, .int (nI (hl 0 2)), .int (nI (hl 0 3)), .int (nI (hl 0 4)), .ref (b + 2), .ref (b + 3), .ref (b + 4), .ref (b + 5), .ref (b + 6), .ref (b + 7), .ref (b + 8)]) dX4_readClause_95 fX4_68 (hW2.2.1.1) (Nat.le_of_ble_eq_true rfl) rfl rfl rfl ?_
          have hWa := hW2.ew v2 wv
          obtain ⟨u2a, u3a, u4a, u5a, u6a, hca⟩ := hWa.1.cell
          refine x_aload_n dX4_readClause_98 1 rfl ?_
          refine x_get dX4_readClause_99 fX4_12 (hWa.2.2.1) rfl ?_
          refine x_aload_n dX4_readClause_102 1 rfl ?_
          refine x_pc (pc' := 103) rfl ?_
          refine x_get dX4_readClause_103 fX4_23 (hWa.2.2.1) rfl ?_
          refine x_iconst dX4_readClause_106 ki_1 ?_
          refine x_sipush dX4_readClause_107 ks_300 ?_
          refine x_cVe (N := mX7_takeNumber) (d' := 1) (mc := 0) (ms := 0) (cb := 0) (sb := 0) (As := [.int (nI 1), .int (nI 300)]) (st := [.ref (b + 1)]) dX4_readClause_110 mX7_takeNumber_v lX4_64 rfl rfl (hca) rfl (by decide) (Nat.le_of_ble_eq_true rfl) (hWa.tn) rfl (sf := fun e3 => [.int e3.1, .ref (b + 1)]) (fun _ => rfl) (fun e3 hq3 => ?_)
          obtain ⟨v3, G3⟩ := e3
          obtain ⟨q3, hW3⟩ := hq3
          simp only at q3 hW3
          rcases h3 : tnP tp n f2 p2 (nI 1) (nI 300) with ⟨f3, p3⟩
          rw [h3] at hW3
          simp only at hW3
          obtain ⟨u23, u33, u43, u53, u63, hc3⟩ := hW3.1.cell
          refine x_put (fs' := [.int v2, .int v3, .int (nI (hl 0 2)), .int (nI (hl 0 3)), .int (nI (hl 0 4)), .ref (b + 2), .ref (b + 3), .ref (b + 4), .ref (b + 5), .ref (b + 6), .ref (b + 7), .ref (b + 8)]) dX4_readClause_113 fX4_71 (hW3.2.1.1) (Nat.le_of_ble_eq_true rfl) rfl rfl rfl ?_
          have hWb := hW3.ew v2 v3
          refine x_goto (tgt := 147) dX4_readClause_116 (by decide) ?_
          exact x_vret dX4_readClause_147 rfl (xEx_i _ (by
      rw [hcl]
      by_cases hf : f3 = 0
      · subst hf
        obtain ⟨z3, v3e, l3, m3, n3, -, -⟩ := tn_ok h3 q3 (by decide)
        subst z3
        obtain ⟨z2, v2e, l2, m2, n2, -, -⟩ := tn_ok h2 (fun _ => q2 trivial) (by decide)
        have r3 := hi_c n3 (by decide) m3
        have r2 := hi_c n2 (by decide) m2
        subst v2e; subst v3e
        exact Or.inl ⟨by simp only [rhaP, h2, h3], by simp only [rhaP, h2, h3]; exact hWb.ends (by omega) (by omega)⟩
      · exact Or.inr ⟨by simp only [rhaP, h2, h3]; exact hf, hl, v2, v3, h9, by simp only [rhaP, h2, h3]; exact hWb⟩) rfl rfl rfl)
        · refine x_tableIn (tgt := 119) (off := 69) dX4_readClause_50 (by rw [c50]; decide) (by rw [c50]; decide) (by rw [c50]; rfl) (by decide) ?_
          have hwk : w = 1 := (nI_eq (by omega) (by decide)).mp c50
          subst hwk
          obtain ⟨he, hwe⟩ := hfe (by omega)
          subst he
          subst hwe
          have hcl : clP tp n 0 p hl bf = rsoP tp n (atA tp n (skP tp n p)) hl := by unfold clP; rw [hw]; simp only; rw [if_neg (by rw [c30]; decide)]; simp only [reduceIte, Nat.reduceEqDiff, if_false, if_true]
          refine x_aload_n dX4_readClause_119 1 rfl ?_
          refine x_pc (pc' := 120) rfl ?_
          refine x_cVe (N := mX4_readSort) (d' := 2) (mc := 0) (ms := 0) (cb := 0) (sb := 0) (As := []) (st := []) dX4_readClause_120 mX4_readSort_v lX4_74 rfl rfl (hW1.2.2.1) rfl (by decide) (Nat.le_of_ble_eq_true rfl) (Hr_sort hW1 h9 (by omega)) rfl (sf := fun G9 => []) (fun _ => rfl) (fun G9 hW9 => ?_)
          refine x_goto (tgt := 147) dX4_readClause_123 (by decide) ?_
          exact x_vret dX4_readClause_147 rfl (xEx_i G9 (by rw [hcl]; exact hW9) rfl rfl rfl)
        · refine x_tableIn (tgt := 126) (off := 76) dX4_readClause_50 (by rw [c50]; decide) (by rw [c50]; decide) (by rw [c50]; rfl) (by decide) ?_
          have hwk : w = 2 := (nI_eq (by omega) (by decide)).mp c50
          subst hwk
          obtain ⟨he, hwe⟩ := hfe (by omega)
          subst he
          subst hwe
          have hcl : clP tp n 0 p hl bf = (0, atA tp n (skP tp n p), set2 hl 0 3 (hl 0 3 + 1)) := by unfold clP; rw [hw]; simp only; rw [if_neg (by rw [c30]; decide)]; simp only [reduceIte, Nat.reduceEqDiff, if_false, if_true]
          refine x_aload_n dX4_readClause_126 1 rfl ?_
          refine x_pc (pc' := 127) rfl ?_
          refine x_get dX4_readClause_127 fX4_12 (hW1.2.2.1) rfl ?_
          refine x_cVe (N := mX3_addMender) (d' := 0) (mc := 0) (ms := 0) (cb := 0) (sb := 0) (As := []) (st := []) dX4_readClause_130 mX3_addMender_v lX4_77 rfl rfl (hW1.2.1.1) rfl (by decide) (Nat.le_of_ble_eq_true rfl) (hW1.hq (Hall_addMender hW1.2.1.to (by omega))) rfl (sf := fun G9 => []) (fun _ => rfl) (fun G9 hW9 => ?_)
          refine x_goto (tgt := 147) dX4_readClause_133 (by decide) ?_
          exact x_vret dX4_readClause_147 rfl (xEx_i G9 (by rw [hcl]; exact Or.inl ⟨rfl, hW9⟩) rfl rfl rfl)
        · refine x_tableIn (tgt := 136) (off := 86) dX4_readClause_50 (by rw [c50]; decide) (by rw [c50]; decide) (by rw [c50]; rfl) (by decide) ?_
          have hwk : w = 3 := (nI_eq (by omega) (by decide)).mp c50
          subst hwk
          obtain ⟨he, hwe⟩ := hfe (by omega)
          subst he
          subst hwe
          have hcl : clP tp n 0 p hl bf = rskP tp n (atA tp n (skP tp n p)) hl := by unfold clP; rw [hw]; simp only; rw [if_neg (by rw [c30]; decide)]; simp only [reduceIte, Nat.reduceEqDiff, if_false, if_true]
          refine x_aload_n dX4_readClause_136 1 rfl ?_
          refine x_pc (pc' := 137) rfl ?_
          refine x_cVe (N := mX4_readSkill) (d' := 2) (mc := 0) (ms := 0) (cb := 0) (sb := 0) (As := []) (st := []) dX4_readClause_137 mX4_readSkill_v lX4_80 rfl rfl (hW1.2.2.1) rfl (by decide) (Nat.le_of_ble_eq_true rfl) (Hr_skill hW1 h9 k2 k3) rfl (sf := fun G9 => []) (fun _ => rfl) (fun G9 hW9 => ?_)
          refine x_goto (tgt := 147) dX4_readClause_140 (by decide) ?_
          exact x_vret dX4_readClause_147 rfl (xEx_i G9 (by rw [hcl]; exact hW9) rfl rfl rfl)
        · refine x_tableOut (tgt := 143) dX4_readClause_50 (by omega) (by decide) ?_
          have hwk : w = 4 := by
            rw [nI_toInt (by omega)] at c50
            omega
          subst hwk
          obtain ⟨he, hwe⟩ := hfe (by omega)
          subst he
          subst hwe
          have hcl : clP tp n 0 p hl bf = rthP tp n (atA tp n (skP tp n p)) hl := by unfold clP; rw [hw]; simp only; rw [if_neg (by rw [c30]; decide)]; simp only [reduceIte, Nat.reduceEqDiff, if_false, if_true]
          refine x_aload_n dX4_readClause_143 1 rfl ?_
          refine x_pc (pc' := 144) rfl ?_
          refine x_cVe (N := mX4_readThing) (d' := 2) (mc := 0) (ms := 0) (cb := 0) (sb := 0) (As := []) (st := []) dX4_readClause_144 mX4_readThing_v lX4_83 rfl rfl (hW1.2.2.1) rfl (by decide) (Nat.le_of_ble_eq_true rfl) (Hr_thing hW1 h9 k2 (by omega)) rfl (sf := fun G9 => []) (fun _ => rfl) (fun G9 hW9 => ?_)
          exact x_vret dX4_readClause_147 rfl (xEx_i G9 (by rw [hcl]; exact hW9) rfl rfl rfl)
      · refine x_aload_n dX4_readClause_33 1 rfl ?_
        refine x_get dX4_readClause_34 fX4_23 (hW.2.2.1) rfl ?_
        refine x_iconst dX4_readClause_37 ki_4 ?_
        refine x_cVe (N := mX7_fail) (d' := 0) (mc := 0) (ms := 0) (cb := 0) (sb := 0) (As := [.int (nI 4)]) (st := []) dX4_readClause_38 mX7_fail_v lX4_57 rfl rfl (hc) rfl (by decide) (Nat.le_of_ble_eq_true rfl) (hW.fl (by decide)) rfl (sf := fun G1 => []) (fun _ => rfl) (fun G1 hW1 => ?_)
        exact x_vret dX4_readClause_41 rfl (xEx_i G1 (by unfold clP; rw [hw]; simp only; rw [if_pos c30]; exact Or.inr ⟨flP_ne, hl, e, wv, h9, hW1⟩) rfl rfl rfl)
    · exact absurd c12 (nI_ne1 (by omega))
theorem Hr_exit {K : xG} {h b tx n : Nat} {G0 : xHp} {tp : Nat → Nat} {R : Nat × Nat × xHl} {f p bf : Nat} {hk hl : xHl} {e wv : Int32} {G1 : xHp} (hW1 : HRd G0 G1 b tx n tp f p hl e wv) (h9 : ∀ j, hl 1 j ≤ 9) (hfe : f = 0 → hk = hl ∧ e = nI (hl 0 0) ∧ wv = nI (hl 0 1)) (hR : (f, p, hk) = R) : xV K mX4_readAll 6 0 0 h G1 58 [(2, .int (nI bf)), (0, .ref b), (1, .int (nI n))] [] (xEx (fun G' => HRend G0 G' b tx (eeP tp n R.1 R.2.1, R.2.2)) (fun _ => some (.int (nI (eeP tp n R.1 R.2.1)))) (fun _ => h) (fun G' => G')) := by
  subst hR
  simp only
  obtain ⟨u21, u31, u41, u51, u61, hc1⟩ := hW1.1.cell
  refine x_aload_n dX4_readAll_58 1 rfl ?_
  refine x_get dX4_readAll_59 fX4_23 (hW1.2.2.1) rfl ?_
  refine x_cVe (N := mX7_expectEnd) (d' := 1) (mc := 0) (ms := 0) (cb := 0) (sb := 0) (As := []) (st := []) dX4_readAll_62 mX7_expectEnd_v lX4_44 rfl rfl (hc1) rfl (by decide) (Nat.le_of_ble_eq_true rfl) (hW1.ee) rfl (sf := fun G2 => []) (fun _ => rfl) (fun G2 hW2 => ?_)
  obtain ⟨u22, u32, u42, u52, u62, hc2⟩ := hW2.1.cell
  refine x_aload_n dX4_readAll_65 1 rfl ?_
  refine x_get dX4_readAll_66 fX4_23 (hW2.2.2.1) rfl ?_
  refine x_get dX4_readAll_69 fX4_47 (hc2) rfl ?_
  exact x_iret dX4_readAll_72 rfl (xEx_i G2 (hW2.fin h9 (fun q => hfe (by by_cases hf : f = 0; exact hf; rw [ee_bad hf] at q; exact q))) rfl rfl rfl)
theorem Hr_loop {K : xG} {h b tx n : Nat} {G0 : xHp} {tp : Nat → Nat} {R : Nat × Nat × xHl} : ∀ (k bf f p : Nat) (hl : xHl) (G1 : xHp), bf + k = 41 → 1 ≤ bf → hrL tp n k bf (f, p, hl) = R → CntOk hl → (f = 0 → ∀ j, hl 1 j ≤ 9) → HRp G0 G1 b tx n tp (f, p, hl) → xV K mX4_readAll 6 0 0 h G1 22 [(2, .int (nI bf)), (0, .ref b), (1, .int (nI n))] [] (xEx (fun G' => HRend G0 G' b tx (eeP tp n R.1 R.2.1, R.2.2)) (fun _ => some (.int (nI (eeP tp n R.1 R.2.1)))) (fun _ => h) (fun G' => G')) := by
  intro k
  induction k with
  | zero =>
    intro bf f p hl G1 hk h1 hR hcn h9 hP
    refine x_iload_n dX4_readAll_22 0 rfl ?_
    refine x_bipush dX4_readAll_23 kb_40 ?_
    refine x_icmpN_gt (tgt := 58) dX4_readAll_25 (by decide) (by omega) (by omega) (fun c25 => ?_) (fun c25 => ?_)
    · rcases hP with ⟨hf, hW1⟩ | ⟨hf, hl1, e1, w1, h91, hW1⟩
      · simp only at hf hW1
        subst hf
        exact Hr_exit hW1 (h9 rfl) (fun _ => ⟨rfl, rfl, rfl⟩) hR
      · exact Hr_exit hW1 h91 (fun q => absurd q hf) hR
    · exact absurd c25 (by omega)
  | succ k ih =>
    intro bf f p hl G1 hk h1 hR hcn h9 hP
    rcases hP with ⟨hf, hW1⟩ | ⟨hf, hl1, e1, w1, h91, hW1⟩
    · simp only at hf hW1
      subst hf
      have htx := hW1.2.2.2.2
      obtain ⟨u21, u31, u41, u51, u61, hc1⟩ := hW1.1.cell
      refine x_iload_n dX4_readAll_22 0 rfl ?_
      refine x_bipush dX4_readAll_23 kb_40 ?_
      refine x_icmpN_gt (tgt := 58) dX4_readAll_25 (by decide) (by omega) (by omega) (fun c25 => ?_) (fun c25 => ?_)
      · exact absurd c25 (by omega)
      · refine x_aload_n dX4_readAll_28 1 rfl ?_
        refine x_get dX4_readAll_29 fX4_23 (hW1.2.2.1) rfl ?_
        refine x_bipush dX4_readAll_32 kb_59 ?_
        refine x_cV (N := mX7_isSign) (d' := 0) (mc := 0) (ms := 0) (cb := 0) (sb := 0) (As := [.int (nI 59)]) (st := []) dX4_readAll_34 mX7_isSign_v lX4_37 rfl rfl (hc1) rfl (by decide) (Nat.le_of_ble_eq_true rfl) (Rd_isSign hW1.1 (by omega) (by decide)) rfl (st1 := [.int (bI (isS tp n 0 p 59))]) rfl ?_
        refine x_ifB_eq (tgt := 58) dX4_readAll_37 (by decide) (fun c37 => ?_) (fun c37 => ?_)
        · exact Hr_exit hW1 (h9 rfl) (fun _ => ⟨rfl, rfl, rfl⟩) (by rw [← hR]; simp only [hrL]; rw [if_neg (by rw [c37]; decide)])
        · refine x_aload_n dX4_readAll_40 1 rfl ?_
          refine x_pc (pc' := 41) rfl ?_
          refine x_get dX4_readAll_41 fX4_23 (hW1.2.2.1) rfl ?_
          refine x_cVe (N := mX7_next) (d' := 0) (mc := 0) (ms := 0) (cb := 0) (sb := 0) (As := []) (st := []) dX4_readAll_44 mX7_next_v lX4_41 rfl rfl (hc1) rfl (by decide) (Nat.le_of_ble_eq_true rfl) (hW1.nx) rfl (sf := fun G2 => []) (fun _ => rfl) (fun G2 hW2 => ?_)
          obtain ⟨u22, u32, u42, u52, u62, hc2⟩ := hW2.1.cell
          refine x_aload_n dX4_readAll_47 1 rfl ?_
          refine x_iload_n dX4_readAll_48 0 rfl ?_
          refine x_cVe (N := mX4_readClause) (d' := 5) (mc := 0) (ms := 0) (cb := 0) (sb := 0) (As := [.int (nI bf)]) (st := []) dX4_readAll_49 mX4_readClause_v lX4_34 rfl rfl (hW2.2.2.1) rfl (by decide) (Nat.le_of_ble_eq_true rfl) (Hr_clause hW2 (fun _ => ⟨rfl, rfl⟩) hcn (h9 rfl) (by omega)) rfl (sf := fun G3 => []) (fun _ => rfl) (fun G3 hW3 => ?_)
          refine x_iinc (v := nI (bf + 1)) (ls' := [(2, .int (nI (bf + 1))), (0, .ref b), (1, .int (nI n))]) dX4_readAll_52 0 rfl (nIs _) (by decide) rfl ?_
          refine x_goto (tgt := 22) dX4_readAll_55 (by decide) ?_
          have hcn2 := clP_cnt (tp := tp) (n := n) (f := 0) (p := atA tp n (skP tp n p)) (bf := bf) hcn
          rcases hcl : clP tp n 0 (atA tp n (skP tp n p)) hl bf with ⟨f3, p3, hl3⟩
          have h93 := clP_l9 (tp := tp) (n := n) (f := 0) (p := atA tp n (skP tp n p)) (bf := bf) (h9 rfl)
          rw [hcl] at hW3 hcn2 h93
          exact ih (bf + 1) f3 p3 hl3 G3 (by omega) (by omega) (by rw [← hR, hrL_s c37 hcl]) hcn2 h93 hW3
    · simp only at hf hW1
      have htx := hW1.2.2.2.2
      obtain ⟨u21, u31, u41, u51, u61, hc1⟩ := hW1.1.cell
      refine x_iload_n dX4_readAll_22 0 rfl ?_
      refine x_bipush dX4_readAll_23 kb_40 ?_
      refine x_icmpN_gt (tgt := 58) dX4_readAll_25 (by decide) (by omega) (by omega) (fun c25 => ?_) (fun c25 => ?_)
      · exact absurd c25 (by omega)
      · refine x_aload_n dX4_readAll_28 1 rfl ?_
        refine x_get dX4_readAll_29 fX4_23 (hW1.2.2.1) rfl ?_
        refine x_bipush dX4_readAll_32 kb_59 ?_
        refine x_cV (N := mX7_isSign) (d' := 0) (mc := 0) (ms := 0) (cb := 0) (sb := 0) (As := [.int (nI 59)]) (st := []) dX4_readAll_34 mX7_isSign_v lX4_37 rfl rfl (hc1) rfl (by decide) (Nat.le_of_ble_eq_true rfl) (Rd_isSign hW1.1 (by omega) (by decide)) rfl (st1 := [.int (bI (isS tp n f p 59))]) rfl ?_
        refine x_ifB_eq (tgt := 58) dX4_readAll_37 (by decide) (fun c37 => ?_) (fun c37 => ?_)
        · exact Hr_exit hW1 h91 (fun q => absurd q hf) (by rw [← hR]; simp only [hrL]; rw [if_neg (by rw [c37]; decide)])
        · rw [isS_f (fun q => hf q.1)] at c37
          exact absurd c37 (by decide)
theorem Hr_readAll {K : xG} {h b tx n : Nat} {G : xHp} {tp : Nat → Nat} {hl : xHl} {e wv a1 a2 a3 a4 a5 a6 a7 : Int32} (hn : n ≤ 400) (ht : G tx = some (eI 0 400 (nF tp))) (htp : ∀ j, tp j < 256) (htx : tx < b) (h9 : ∀ j, hl 1 j ≤ 9) (hH : HallW G (b + 1) hl e wv) (hr : G (b + 9) = some (eO 7 [.ref tx, .int a1, .int a2, .int a3, .int a4, .int a5, .int a6, .int a7])) (hb : G b = some (eO 4 [.ref (b + 9), .ref (b + 1)])) : xCall K mX4_readAll 6 0 0 [.ref b, .int (nI n)] h G (xEx (fun G' => HRend G G' b tx (hallP tp n hl)) (fun _ => some (.int (nI (hallP tp n hl).1))) (fun _ => h) (fun G' => G')) := by
  refine x_entry (by decide) (ls := [(0, .ref b), (1, .int (nI n))]) rfl (Nat.le_of_ble_eq_true rfl) ?_
  have h9c : ∀ j, hlClr hl 1 j ≤ 9 := fun j => by rw [hlClr_off hl (by decide) (by decide)]; exact h9 j
  have hcn : CntOk (hlClr hl) := ⟨by simp [hlClr], by simp [hlClr], by simp [hlClr]⟩
  refine x_aload_n dX4_readAll_0 0 rfl ?_
  refine x_get dX4_readAll_1 fX4_12 (hb) rfl ?_
  refine x_cVe (N := mX3_clear) (d' := 1) (mc := 0) (ms := 0) (cb := 0) (sb := 0) (As := []) (st := []) dX4_readAll_4 mX3_clear_v lX4_27 rfl rfl (hH.1) rfl (by decide) (Nat.le_of_ble_eq_true rfl) (Hall_clearW hH) rfl (sf := fun G1 => []) (fun _ => rfl) (fun G1 hq1 => ?_)
  obtain ⟨y1, y2⟩ := hq1
  have hr1 := (y2 (b + 9) (by omega)).trans hr
  have hb1 := (y2 b (by omega)).trans hb
  have ht1 := (y2 tx (by omega)).trans ht
  refine x_aload_n dX4_readAll_7 0 rfl ?_
  refine x_get dX4_readAll_8 fX4_23 (hb1) rfl ?_
  refine x_iload_n dX4_readAll_11 1 rfl ?_
  refine x_cVe (N := mX7_start) (d' := 1) (mc := 0) (ms := 0) (cb := 0) (sb := 0) (As := [.int (nI n)]) (st := []) dX4_readAll_12 mX7_start_v lX4_30 rfl rfl (hr1) rfl (by decide) (Nat.le_of_ble_eq_true rfl) (Rd_start hn ht1 (by omega) htp hr1) rfl (sf := fun G2 => []) (fun _ => rfl) (fun G2 hq2 => ?_)
  obtain ⟨y3, y4⟩ := hq2
  have hW2 : HRd G G2 b tx n tp 0 0 (hlClr hl) e wv := ⟨y3, y1.fr (fun a h1 h2 => y4 a (by omega)), (y4 b (by omega)).trans hb1, fun a ha => (y4 a (by omega)).trans (y2 a (by omega)), htx⟩
  obtain ⟨u22, u32, u42, u52, u62, hc2⟩ := hW2.1.cell
  refine x_aload_n dX4_readAll_15 0 rfl ?_
  refine x_iconst dX4_readAll_16 ki_0 ?_
  refine x_pc (pc' := 17) rfl ?_
  refine x_cVe (N := mX4_readClause) (d' := 5) (mc := 0) (ms := 0) (cb := 0) (sb := 0) (As := [.int (nI 0)]) (st := []) dX4_readAll_17 mX4_readClause_v lX4_34 rfl rfl (hW2.2.2.1) rfl (by decide) (Nat.le_of_ble_eq_true rfl) (Hr_clause hW2 (fun q => absurd rfl q) hcn h9c (by decide)) rfl (sf := fun G3 => []) (fun _ => rfl) (fun G3 hW3 => ?_)
  refine x_iconst dX4_readAll_20 ki_1 ?_
  refine x_istore_n (ls' := [(2, .int (nI 1)), (0, .ref b), (1, .int (nI n))]) dX4_readAll_21 (by decide) rfl ?_
  have hcn2 := clP_cnt (tp := tp) (n := n) (f := 0) (p := 0) (bf := 0) hcn
  rcases hcl : clP tp n 0 0 (hlClr hl) 0 with ⟨f3, p3, hl3⟩
  have h93 := clP_l9 (tp := tp) (n := n) (f := 0) (p := 0) (bf := 0) h9c
  rw [hcl] at hW3 hcn2 h93
  exact Hr_loop (R := hrP tp n hl) 40 1 f3 p3 hl3 G3 (by omega) (by omega) (by unfold hrP; rw [hcl]) hcn2 h93 hW3
theorem Hr_init {K : xG} {b tx : Nat} {G : xHp} (hb : G b = some (eO 4 [.null, .null])) : xCall K mX4_init 2 9 72 [.ref b, .ref tx] (b + 1) G (xEx (fun G' => HallAt G' (b + 1) (fun _ _ => 0) ∧ G' (b + 9) = some (eO 7 [.ref tx, .int 0, .int 0, .int 0, .int 0, .int 0, .int 0, .int 0]) ∧ G' b = some (eO 4 [.ref (b + 9), .ref (b + 1)]) ∧ Fr G G' b 10) (fun _ => none) (fun _ => b + 10) (fun G' => G')) := by
  refine x_entry (by decide) (ls := [(0, .ref b), (1, .ref tx)]) rfl (Nat.le_of_ble_eq_true rfl) ?_
  refine x_aload_n dX4_init_0 0 rfl ?_
  refine x_objInit dX4_init_1 lX4_3 xw_objI xw_objC (by decide) (Nat.le_of_ble_eq_true rfl) ?_
  refine x_aload_n dX4_init_4 0 rfl ?_
  refine x_new (cb := 8) (sb := 60) (fs := [.int 0, .int 0, .int 0, .int 0, .int 0, .null, .null, .null, .null, .null, .null, .null]) dX4_init_5 xcl_X3 kX4_9 xin_X3 xii_X3 xdf_X3 ?_
  refine x_hh (h' := b + 2) rfl ?_
  refine x_dup dX4_init_8 rfl ?_
  refine x_cINe (N := mX3_init) (d' := 1) (mc := 7) (ms := 52) (cb := 1) (sb := 8) (As := []) (st := [.ref (b + 1), .ref b]) dX4_init_9 mX3_init_i lX4_11 rfl (by decide) (Nat.le_of_ble_eq_true rfl) (Hall_init (xup_eq)) rfl (sf := fun G1 => [.ref (b + 1), .ref b]) (fun _ => rfl) (fun G1 hq1 => ?_)
  obtain ⟨y1, y2⟩ := hq1
  have t1 : G1 b = some (eO 4 [.null, .null]) := (y2 b (by omega)).trans (xup_of (by omega) (hb))
  refine x_hh (h' := b + 9) rfl ?_
  refine x_putF (fs' := [.null, .ref (b + 1)]) dX4_init_12 fX4_12 rfl rfl (t1) (Nat.le_of_ble_eq_true rfl) rfl rfl rfl ?_
  refine x_aload_n dX4_init_15 0 rfl ?_
  refine x_new (cb := 0) (sb := 0) (fs := [.null, .int 0, .int 0, .int 0, .int 0, .int 0, .int 0, .int 0]) dX4_init_16 xcl_X7 kX4_18 xin_X7 xii_X7 xdf_X7 ?_
  refine x_hh (h' := b + 10) rfl ?_
  refine x_pc (pc' := 19) rfl ?_
  refine x_dup dX4_init_19 rfl ?_
  refine x_aload_n dX4_init_20 1 rfl ?_
  refine x_cI (N := mX7_init) (d' := 1) (mc := 0) (ms := 0) (cb := 0) (sb := 0) (As := [.ref tx]) (st := [.ref (b + 9), .ref b]) dX4_init_21 mX7_init_i lX4_20 rfl (by decide) (Nat.le_of_ble_eq_true rfl) (Rd_init (xup_eq)) rfl (st1 := [.ref (b + 9), .ref b]) rfl ?_
  refine x_geq xup_up ?_
  refine x_putF (fs' := [.ref (b + 9), .ref (b + 1)]) dX4_init_24 fX4_23 rfl rfl (xup_of (by omega) (xup_eq)) (Nat.le_of_ble_eq_true rfl) rfl rfl rfl ?_
  refine x_geq (xup_dig (by omega)) ?_
  exact x_vret dX4_init_27 rfl (xEx_i _ ⟨y1.fr (fun a h1 h2 => by rw [xup_ne (by omega)]; rw [xup_ne (by omega)]), xup_eq, xup_of (by omega) (xup_eq), by intro q hq; rw [xup_ne (by omega), xup_ne (by omega), y2 q (by omega), xup_ne (by omega)]⟩ rfl rfl rfl)
