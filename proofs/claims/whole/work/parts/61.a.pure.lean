/-! ===== the reference: all as the text told it ===== -/
theorem cp_blk {f : Nat → Int32} {r : xRw} : cpF f (blk r 1 4) 4 = blk (layF r f 1 4) 1 4 := by
  funext j
  unfold cpF blk
  by_cases h : j < 4
  · rw [if_pos h, if_pos h]; unfold layF; rw [if_pos (by omega), show 1 + j - 1 = j by omega]
  · rw [if_neg h, if_neg h, if_neg h]
theorem MW.cp3 {G0 G : xHp} {y : Nat} {hl : xHl} {r : xRw} {sc : Nat × Nat × Int32} {A : Nat → Nat → Int32} {F : Nat → Int32} {wa sa : Nat → Int64} (h : MW G0 G y hl r sc A F wa sa) (f : Nat → Int32) : MW G0 (xup G (y + 3) (eI 0 4 (cpF f (blk r 1 4) 4))) y hl (layF r f 1 4) sc A F wa sa := by
  refine h.cell 3 (by omega) (by omega) (by rw [cp_blk]; rfl) (fun i a b q => ?_) h.2.2.2
  have z : ∀ o n, 5 ≤ o → blk (layF r f 1 4) o n = blk r o n := fun o n ho => blk_cong (fun j hj => by unfold layF; rw [if_neg (by omega)])
  have e : ovr A hl (layF r f 1 4) sc i = ovr A hl r sc i := by
    have e1 : scal hl (layF r f 1 4) sc = scal hl r sc := by
      unfold scal
      rw [show layF r f 1 4 0 = r 0 from if_neg (by omega)]
    unfold ovr
    exact ite_c (fun _ => e1) (ite_c (fun _ => rfl) (ite_c (fun e => absurd e q) (ite_c (fun _ => rfl) (ite_c (fun _ => z 5 4 (by decide)) (ite_c (fun _ => z 9 4 (by decide)) (ite_c (fun _ => z 13 4 (by decide)) (ite_c (fun _ => z 17 4 (by decide)) (ite_c (fun _ => rfl) (ite_c (fun _ => rfl) (ite_c (fun _ => rfl) (ite_c (fun _ => rfl) (ite_c (fun _ => z 21 7 (by decide)) (ite_c (fun _ => z 28 7 (by decide)) (ite_c (fun _ => rfl) rfl))))))))))))))
  unfold mcell; rw [e]
def bg1 (R : xRw) (q : Nat) : xRw := fun j => if 5 ≤ j ∧ j < 5 + q then -1 else if (9 ≤ j ∧ j < 9 + q) ∨ (13 ≤ j ∧ j < 13 + q) ∨ (17 ≤ j ∧ j < 17 + q) then nI 0 else R j
def bg2 (R : xRw) (q : Nat) : xRw := fun j => if 28 ≤ j ∧ j < 28 + q then -1 else if 21 ≤ j ∧ j < 21 + q then nI 0 else R j
theorem bg1_0 (R : xRw) : bg1 R 0 = R := by funext j; unfold bg1; rw [if_neg (by omega), if_neg (by omega)]
theorem bg2_0 (R : xRw) : bg2 R 0 = R := by funext j; unfold bg2; rw [if_neg (by omega), if_neg (by omega)]
theorem bg1_s {R : xRw} {q : Nat} (hq : q < 4) : upd (upd (upd (upd (bg1 R q) (5 + q) (-1)) (9 + q) (nI 0)) (13 + q) (nI 0)) (17 + q) (nI 0) = bg1 R (q + 1) := by
  funext j
  by_cases e1 : j = 17 + q
  · subst e1; rw [upd_at]; unfold bg1; rw [if_neg (by omega), if_pos (by omega)]
  · rw [upd_off e1]
    by_cases e2 : j = 13 + q
    · subst e2; rw [upd_at]; unfold bg1; rw [if_neg (by omega), if_pos (by omega)]
    · rw [upd_off e2]
      by_cases e3 : j = 9 + q
      · subst e3; rw [upd_at]; unfold bg1; rw [if_neg (by omega), if_pos (by omega)]
      · rw [upd_off e3]
        by_cases e4 : j = 5 + q
        · subst e4; rw [upd_at]; unfold bg1; rw [if_pos (by omega)]
        · rw [upd_off e4]; unfold bg1
          by_cases h1 : 5 ≤ j ∧ j < 5 + q
          · rw [if_pos h1, if_pos (by omega)]
          · rw [if_neg h1, if_neg (c := 5 ≤ j ∧ j < 5 + (q + 1)) (by omega)]
            by_cases h2 : (9 ≤ j ∧ j < 9 + q) ∨ (13 ≤ j ∧ j < 13 + q) ∨ (17 ≤ j ∧ j < 17 + q)
            · rw [if_pos h2, if_pos (by omega)]
            · rw [if_neg h2, if_neg (by omega)]
theorem bg2_s {R : xRw} {q : Nat} (hq : q < 7) : upd (upd (bg2 R q) (21 + q) (nI 0)) (28 + q) (-1) = bg2 R (q + 1) := by
  funext j
  by_cases e1 : j = 28 + q
  · subst e1; rw [upd_at]; unfold bg2; rw [if_pos (by omega)]
  · rw [upd_off e1]
    by_cases e2 : j = 21 + q
    · subst e2; rw [upd_at]; unfold bg2; rw [if_neg (by omega), if_pos (by omega)]
    · rw [upd_off e2]; unfold bg2
      by_cases h1 : 28 ≤ j ∧ j < 28 + q
      · rw [if_pos h1, if_pos (by omega)]
      · rw [if_neg h1, if_neg (c := 28 ≤ j ∧ j < 28 + (q + 1)) (by omega)]
        by_cases h2 : 21 ≤ j ∧ j < 21 + q
        · rw [if_pos h2, if_pos (by omega)]
        · rw [if_neg h2, if_neg (by omega)]
theorem bg_clear {hl : xHl} {r : xRw} : ∀ j, j < 35 → clearR hl j = bg2 (bg1 (upd (layF r (nF (hl 2)) 1 4) 0 (nI 0)) 4) 7 j := by
  intro j hj
  unfold clearR bg2
  simp only [rngF]
  by_cases h1 : 28 ≤ j ∧ j < 28 + 7
  · rw [if_pos h1, if_pos h1]
  · rw [if_neg h1, if_neg h1]
    by_cases h2 : 5 ≤ j ∧ j < 5 + 4
    · rw [if_pos h2, if_neg (by omega)]
      unfold bg1; rw [if_pos h2]
    · rw [if_neg h2]
      by_cases h0 : 1 ≤ j ∧ j < 1 + 4
      · rw [if_neg (by omega)]
        unfold bg1
        rw [if_neg h2, if_neg (by omega), upd_off (by omega)]
        unfold layF
        rw [if_pos h0, pk_cpy_in h0.1 h0.2]
        congr 1
        omega
      · have e : va_cpy (nF (hl 2)) (fun _ => nI 0) 0 1 4 j = nI 0 := by
          unfold va_cpy
          rw [if_neg (by omega)]
        rw [e]
        by_cases h3 : 21 ≤ j ∧ j < 21 + 7
        · rw [if_pos h3]
        · rw [if_neg h3]
          unfold bg1
          rw [if_neg h2]
          by_cases h4 : j = 0
          · rw [if_neg (by omega), h4, upd_at]
          · rw [if_pos (by omega)]
