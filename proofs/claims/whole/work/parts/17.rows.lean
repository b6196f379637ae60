theorem fb_rngX (x : Int32) : -2147483648 ≤ x.toInt ∧ x.toInt < 2147483648 := ⟨by have := Int32.minValue_le_toInt x; simpa using this, by have := Int32.toInt_lt x; simpa using this⟩
def bI (b : Bool) : Int32 := if b then 1 else 0
theorem bI_nar (b : Bool) : narrow .boolean (.int (bI b)) = .int (bI b) := by cases b <;> rfl
theorem bI_fit (b : Bool) : fits .boolean (.int (bI b)) = true := by cases b <;> rfl
theorem bI_t : bI true = nI 1 := rfl
theorem bI_f : bI false = nI 0 := rfl
theorem bI_0 {b : Bool} : bI b = 0 ↔ b = false := by cases b <;> simp [bI]
theorem xup_dig {G : xHp} {a b : Nat} {e e' e2 : xE} (h : a ≠ b) : xup (xup (xup G a e) b e2) a e' = xup (xup G a e') b e2 := by rw [xup_comm (a := b) (b := a) (Ne.symm h), xup_up]
theorem xup_dig2 {G : xHp} {a b c : Nat} {e e' e2 e3 : xE} (h : a ≠ b) (h' : a ≠ c) : xup (xup (xup (xup G a e) b e2) c e3) a e' = xup (xup (xup G a e') b e2) c e3 := by rw [xup_comm (a := c) (b := a) (Ne.symm h'), xup_dig h]
theorem xup_dig3 {G : xHp} {a b c d : Nat} {e e' e2 e3 e4 : xE} (h : a ≠ b) (h' : a ≠ c) (h'' : a ≠ d) : xup (xup (xup (xup (xup G a e) b e2) c e3) d e4) a e' = xup (xup (xup (xup G a e') b e2) c e3) d e4 := by rw [xup_comm (a := d) (b := a) (Ne.symm h''), xup_dig2 h h']
section XQ
variable {K : xG} {M N : xM} {d d' cb sb mc ms h : Nat} {G : xHp} {pc : Nat} {ls ls' : List (Nat × Value)} {st : List Value} {Q Q' : xPost}
theorem x_ifB_eq {b : Bool} {off : Int} {tgt : Nat} (hd : decode M.2.1 pc = .ok (.ifCond .eq off, 3)) (ht : (pc : Int) + off = (tgt : Int)) (kt : b = false → xV K M d cb sb h G tgt ls st Q) (kf : b = true → xV K M d cb sb h G (pc + 3) ls st Q) : xV K M d cb sb h G pc ls (.int (bI b) :: st) Q := x_if_eq hd ht (fun q => kt (bI_0.mp q)) (fun q => kf (by cases b; exact absurd rfl q; rfl))
theorem x_ifB_ne {b : Bool} {off : Int} {tgt : Nat} (hd : decode M.2.1 pc = .ok (.ifCond .ne off, 3)) (ht : (pc : Int) + off = (tgt : Int)) (kt : b = true → xV K M d cb sb h G tgt ls st Q) (kf : b = false → xV K M d cb sb h G (pc + 3) ls st Q) : xV K M d cb sb h G pc ls (.int (bI b) :: st) Q := x_if_ne hd ht (fun q => kt (by cases b; exact absurd rfl q; rfl)) (fun q => kf (bI_0.mp q))
theorem x_aastN {t q n b ci i : Nat} {f : Nat → Option Nat} {fs : List Value} {r : vw_C} (hd : decode M.2.1 pc = .ok (.aastore, 1)) (hc : G q = some (eQ t n f)) (htt : ∀ K : xG, (xTys K)[4 + t]? = some (K.2.2.2.1 (4 + t), .object r.1)) (hcb : G b = some (eO ci fs)) (hci : vwCl[ci]? = some r) (hi : i < n) (hn : n < 2 ^ 31) (kk : xV K M d cb sb h (xup G q (eQ t n (va_up f i (some b)))) (pc + 1) ls st Q) : xV K M d cb sb h G pc ls (.ref b :: .int (nI i) :: .ref q :: st) Q := x_aast hd hc htt hcb hci (vp_in_nI hi hn) (by rw [nI_clamp (Nat.lt_trans hi hn)]; exact kk)
end XQ
theorem xsw_to (x : Int32) (n : Nat) (h : x.toInt = n) : x = nI n := by
  rw [← Int32.toInt_inj, h, nI_toInt]
  have := fb_rngX x
  omega
theorem xsw_0_3 (x : Int32) : x = nI 0 ∨ x = nI 1 ∨ x = nI 2 ∨ (x.toInt < 0 ∨ 2 < x.toInt) := by
  rcases Int.lt_or_le x.toInt 0 with h | h
  · right; right; right; left; exact h
  rcases Int.lt_or_le 0 x.toInt with h | h
  rotate_left
  · left; exact xsw_to x 0 (by omega)
  rcases Int.lt_or_le 1 x.toInt with h | h
  rotate_left
  · right; left; exact xsw_to x 1 (by omega)
  rcases Int.lt_or_le 2 x.toInt with h | h
  rotate_left
  · right; right; left; exact xsw_to x 2 (by omega)
  right; right; right; right; exact h
theorem xsw_0_6 (x : Int32) : x = nI 0 ∨ x = nI 1 ∨ x = nI 2 ∨ x = nI 3 ∨ x = nI 4 ∨ x = nI 5 ∨ (x.toInt < 0 ∨ 5 < x.toInt) := by
  rcases Int.lt_or_le x.toInt 0 with h | h
  · right; right; right; right; right; right; left; exact h
  rcases Int.lt_or_le 0 x.toInt with h | h
  rotate_left
  · left; exact xsw_to x 0 (by omega)
  rcases Int.lt_or_le 1 x.toInt with h | h
  rotate_left
  · right; left; exact xsw_to x 1 (by omega)
  rcases Int.lt_or_le 2 x.toInt with h | h
  rotate_left
  · right; right; left; exact xsw_to x 2 (by omega)
  rcases Int.lt_or_le 3 x.toInt with h | h
  rotate_left
  · right; right; right; left; exact xsw_to x 3 (by omega)
  rcases Int.lt_or_le 4 x.toInt with h | h
  rotate_left
  · right; right; right; right; left; exact xsw_to x 4 (by omega)
  rcases Int.lt_or_le 5 x.toInt with h | h
  rotate_left
  · right; right; right; right; right; left; exact xsw_to x 5 (by omega)
  right; right; right; right; right; right; right; exact h
theorem xsw_0_8 (x : Int32) : x = nI 0 ∨ x = nI 1 ∨ x = nI 2 ∨ x = nI 3 ∨ x = nI 4 ∨ x = nI 5 ∨ x = nI 6 ∨ x = nI 7 ∨ (x.toInt < 0 ∨ 7 < x.toInt) := by
  rcases Int.lt_or_le x.toInt 0 with h | h
  · right; right; right; right; right; right; right; right; left; exact h
  rcases Int.lt_or_le 0 x.toInt with h | h
  rotate_left
  · left; exact xsw_to x 0 (by omega)
  rcases Int.lt_or_le 1 x.toInt with h | h
  rotate_left
  · right; left; exact xsw_to x 1 (by omega)
  rcases Int.lt_or_le 2 x.toInt with h | h
  rotate_left
  · right; right; left; exact xsw_to x 2 (by omega)
  rcases Int.lt_or_le 3 x.toInt with h | h
  rotate_left
  · right; right; right; left; exact xsw_to x 3 (by omega)
  rcases Int.lt_or_le 4 x.toInt with h | h
  rotate_left
  · right; right; right; right; left; exact xsw_to x 4 (by omega)
  rcases Int.lt_or_le 5 x.toInt with h | h
  rotate_left
  · right; right; right; right; right; left; exact xsw_to x 5 (by omega)
  rcases Int.lt_or_le 6 x.toInt with h | h
  rotate_left
  · right; right; right; right; right; right; left; exact xsw_to x 6 (by omega)
  rcases Int.lt_or_le 7 x.toInt with h | h
  rotate_left
  · right; right; right; right; right; right; right; left; exact xsw_to x 7 (by omega)
  right; right; right; right; right; right; right; right; right; exact h
theorem xsw_0_17 (x : Int32) : x = nI 0 ∨ x = nI 1 ∨ x = nI 2 ∨ x = nI 3 ∨ x = nI 4 ∨ x = nI 5 ∨ x = nI 6 ∨ x = nI 7 ∨ x = nI 8 ∨ x = nI 9 ∨ x = nI 10 ∨ x = nI 11 ∨ x = nI 12 ∨ x = nI 13 ∨ x = nI 14 ∨ x = nI 15 ∨ x = nI 16 ∨ (x.toInt < 0 ∨ 16 < x.toInt) := by
  rcases Int.lt_or_le x.toInt 0 with h | h
  · right; right; right; right; right; right; right; right; right; right; right; right; right; right; right; right; right; left; exact h
  rcases Int.lt_or_le 0 x.toInt with h | h
  rotate_left
  · left; exact xsw_to x 0 (by omega)
  rcases Int.lt_or_le 1 x.toInt with h | h
  rotate_left
  · right; left; exact xsw_to x 1 (by omega)
  rcases Int.lt_or_le 2 x.toInt with h | h
  rotate_left
  · right; right; left; exact xsw_to x 2 (by omega)
  rcases Int.lt_or_le 3 x.toInt with h | h
  rotate_left
  · right; right; right; left; exact xsw_to x 3 (by omega)
  rcases Int.lt_or_le 4 x.toInt with h | h
  rotate_left
  · right; right; right; right; left; exact xsw_to x 4 (by omega)
  rcases Int.lt_or_le 5 x.toInt with h | h
  rotate_left
  · right; right; right; right; right; left; exact xsw_to x 5 (by omega)
  rcases Int.lt_or_le 6 x.toInt with h | h
  rotate_left
  · right; right; right; right; right; right; left; exact xsw_to x 6 (by omega)
  rcases Int.lt_or_le 7 x.toInt with h | h
  rotate_left
  · right; right; right; right; right; right; right; left; exact xsw_to x 7 (by omega)
  rcases Int.lt_or_le 8 x.toInt with h | h
  rotate_left
  · right; right; right; right; right; right; right; right; left; exact xsw_to x 8 (by omega)
  rcases Int.lt_or_le 9 x.toInt with h | h
  rotate_left
  · right; right; right; right; right; right; right; right; right; left; exact xsw_to x 9 (by omega)
  rcases Int.lt_or_le 10 x.toInt with h | h
  rotate_left
  · right; right; right; right; right; right; right; right; right; right; left; exact xsw_to x 10 (by omega)
  rcases Int.lt_or_le 11 x.toInt with h | h
  rotate_left
  · right; right; right; right; right; right; right; right; right; right; right; left; exact xsw_to x 11 (by omega)
  rcases Int.lt_or_le 12 x.toInt with h | h
  rotate_left
  · right; right; right; right; right; right; right; right; right; right; right; right; left; exact xsw_to x 12 (by omega)
  rcases Int.lt_or_le 13 x.toInt with h | h
  rotate_left
  · right; right; right; right; right; right; right; right; right; right; right; right; right; left; exact xsw_to x 13 (by omega)
  rcases Int.lt_or_le 14 x.toInt with h | h
  rotate_left
  · right; right; right; right; right; right; right; right; right; right; right; right; right; right; left; exact xsw_to x 14 (by omega)
  rcases Int.lt_or_le 15 x.toInt with h | h
  rotate_left
  · right; right; right; right; right; right; right; right; right; right; right; right; right; right; right; left; exact xsw_to x 15 (by omega)
  rcases Int.lt_or_le 16 x.toInt with h | h
  rotate_left
  · right; right; right; right; right; right; right; right; right; right; right; right; right; right; right; right; left; exact xsw_to x 16 (by omega)
  right; right; right; right; right; right; right; right; right; right; right; right; right; right; right; right; right; right; exact h
theorem xsw_0_32 (x : Int32) : x = nI 0 ∨ x = nI 1 ∨ x = nI 2 ∨ x = nI 3 ∨ x = nI 4 ∨ x = nI 5 ∨ x = nI 6 ∨ x = nI 7 ∨ x = nI 8 ∨ x = nI 9 ∨ x = nI 10 ∨ x = nI 11 ∨ x = nI 12 ∨ x = nI 13 ∨ x = nI 14 ∨ x = nI 15 ∨ x = nI 16 ∨ x = nI 17 ∨ x = nI 18 ∨ x = nI 19 ∨ x = nI 20 ∨ x = nI 21 ∨ x = nI 22 ∨ x = nI 23 ∨ x = nI 24 ∨ x = nI 25 ∨ x = nI 26 ∨ x = nI 27 ∨ x = nI 28 ∨ x = nI 29 ∨ x = nI 30 ∨ x = nI 31 ∨ (x.toInt < 0 ∨ 31 < x.toInt) := by
  rcases Int.lt_or_le x.toInt 0 with h | h
  · right; right; right; right; right; right; right; right; right; right; right; right; right; right; right; right; right; right; right; right; right; right; right; right; right; right; right; right; right; right; right; right; left; exact h
  rcases Int.lt_or_le 0 x.toInt with h | h
  rotate_left
  · left; exact xsw_to x 0 (by omega)
  rcases Int.lt_or_le 1 x.toInt with h | h
  rotate_left
  · right; left; exact xsw_to x 1 (by omega)
  rcases Int.lt_or_le 2 x.toInt with h | h
  rotate_left
  · right; right; left; exact xsw_to x 2 (by omega)
  rcases Int.lt_or_le 3 x.toInt with h | h
  rotate_left
  · right; right; right; left; exact xsw_to x 3 (by omega)
  rcases Int.lt_or_le 4 x.toInt with h | h
  rotate_left
  · right; right; right; right; left; exact xsw_to x 4 (by omega)
  rcases Int.lt_or_le 5 x.toInt with h | h
  rotate_left
  · right; right; right; right; right; left; exact xsw_to x 5 (by omega)
  rcases Int.lt_or_le 6 x.toInt with h | h
  rotate_left
  · right; right; right; right; right; right; left; exact xsw_to x 6 (by omega)
  rcases Int.lt_or_le 7 x.toInt with h | h
  rotate_left
  · right; right; right; right; right; right; right; left; exact xsw_to x 7 (by omega)
  rcases Int.lt_or_le 8 x.toInt with h | h
  rotate_left
  · right; right; right; right; right; right; right; right; left; exact xsw_to x 8 (by omega)
  rcases Int.lt_or_le 9 x.toInt with h | h
  rotate_left
  · right; right; right; right; right; right; right; right; right; left; exact xsw_to x 9 (by omega)
  rcases Int.lt_or_le 10 x.toInt with h | h
  rotate_left
  · right; right; right; right; right; right; right; right; right; right; left; exact xsw_to x 10 (by omega)
  rcases Int.lt_or_le 11 x.toInt with h | h
  rotate_left
  · right; right; right; right; right; right; right; right; right; right; right; left; exact xsw_to x 11 (by omega)
  rcases Int.lt_or_le 12 x.toInt with h | h
  rotate_left
  · right; right; right; right; right; right; right; right; right; right; right; right; left; exact xsw_to x 12 (by omega)
  rcases Int.lt_or_le 13 x.toInt with h | h
  rotate_left
  · right; right; right; right; right; right; right; right; right; right; right; right; right; left; exact xsw_to x 13 (by omega)
  rcases Int.lt_or_le 14 x.toInt with h | h
  rotate_left
  · right; right; right; right; right; right; right; right; right; right; right; right; right; right; left; exact xsw_to x 14 (by omega)
  rcases Int.lt_or_le 15 x.toInt with h | h
  rotate_left
  · right; right; right; right; right; right; right; right; right; right; right; right; right; right; right; left; exact xsw_to x 15 (by omega)
  rcases Int.lt_or_le 16 x.toInt with h | h
  rotate_left
  · right; right; right; right; right; right; right; right; right; right; right; right; right; right; right; right; left; exact xsw_to x 16 (by omega)
  rcases Int.lt_or_le 17 x.toInt with h | h
  rotate_left
  · right; right; right; right; right; right; right; right; right; right; right; right; right; right; right; right; right; left; exact xsw_to x 17 (by omega)
  rcases Int.lt_or_le 18 x.toInt with h | h
  rotate_left
  · right; right; right; right; right; right; right; right; right; right; right; right; right; right; right; right; right; right; left; exact xsw_to x 18 (by omega)
  rcases Int.lt_or_le 19 x.toInt with h | h
  rotate_left
  · right; right; right; right; right; right; right; right; right; right; right; right; right; right; right; right; right; right; right; left; exact xsw_to x 19 (by omega)
  rcases Int.lt_or_le 20 x.toInt with h | h
  rotate_left
  · right; right; right; right; right; right; right; right; right; right; right; right; right; right; right; right; right; right; right; right; left; exact xsw_to x 20 (by omega)
  rcases Int.lt_or_le 21 x.toInt with h | h
  rotate_left
  · right; right; right; right; right; right; right; right; right; right; right; right; right; right; right; right; right; right; right; right; right; left; exact xsw_to x 21 (by omega)
  rcases Int.lt_or_le 22 x.toInt with h | h
  rotate_left
  · right; right; right; right; right; right; right; right; right; right; right; right; right; right; right; right; right; right; right; right; right; right; left; exact xsw_to x 22 (by omega)
  rcases Int.lt_or_le 23 x.toInt with h | h
  rotate_left
  · right; right; right; right; right; right; right; right; right; right; right; right; right; right; right; right; right; right; right; right; right; right; right; left; exact xsw_to x 23 (by omega)
  rcases Int.lt_or_le 24 x.toInt with h | h
  rotate_left
  · right; right; right; right; right; right; right; right; right; right; right; right; right; right; right; right; right; right; right; right; right; right; right; right; left; exact xsw_to x 24 (by omega)
  rcases Int.lt_or_le 25 x.toInt with h | h
  rotate_left
  · right; right; right; right; right; right; right; right; right; right; right; right; right; right; right; right; right; right; right; right; right; right; right; right; right; left; exact xsw_to x 25 (by omega)
  rcases Int.lt_or_le 26 x.toInt with h | h
  rotate_left
  · right; right; right; right; right; right; right; right; right; right; right; right; right; right; right; right; right; right; right; right; right; right; right; right; right; right; left; exact xsw_to x 26 (by omega)
  rcases Int.lt_or_le 27 x.toInt with h | h
  rotate_left
  · right; right; right; right; right; right; right; right; right; right; right; right; right; right; right; right; right; right; right; right; right; right; right; right; right; right; right; left; exact xsw_to x 27 (by omega)
  rcases Int.lt_or_le 28 x.toInt with h | h
  rotate_left
  · right; right; right; right; right; right; right; right; right; right; right; right; right; right; right; right; right; right; right; right; right; right; right; right; right; right; right; right; left; exact xsw_to x 28 (by omega)
  rcases Int.lt_or_le 29 x.toInt with h | h
  rotate_left
  · right; right; right; right; right; right; right; right; right; right; right; right; right; right; right; right; right; right; right; right; right; right; right; right; right; right; right; right; right; left; exact xsw_to x 29 (by omega)
  rcases Int.lt_or_le 30 x.toInt with h | h
  rotate_left
  · right; right; right; right; right; right; right; right; right; right; right; right; right; right; right; right; right; right; right; right; right; right; right; right; right; right; right; right; right; right; left; exact xsw_to x 30 (by omega)
  rcases Int.lt_or_le 31 x.toInt with h | h
  rotate_left
  · right; right; right; right; right; right; right; right; right; right; right; right; right; right; right; right; right; right; right; right; right; right; right; right; right; right; right; right; right; right; right; left; exact xsw_to x 31 (by omega)
  right; right; right; right; right; right; right; right; right; right; right; right; right; right; right; right; right; right; right; right; right; right; right; right; right; right; right; right; right; right; right; right; right; exact h
theorem xsw_0_12 (x : Int32) : x = nI 0 ∨ x = nI 1 ∨ x = nI 2 ∨ x = nI 3 ∨ x = nI 4 ∨ x = nI 5 ∨ x = nI 6 ∨ x = nI 7 ∨ x = nI 8 ∨ x = nI 9 ∨ x = nI 10 ∨ x = nI 11 ∨ (x.toInt < 0 ∨ 11 < x.toInt) := by
  rcases Int.lt_or_le x.toInt 0 with h | h
  · right; right; right; right; right; right; right; right; right; right; right; right; left; exact h
  rcases Int.lt_or_le 0 x.toInt with h | h
  rotate_left
  · left; exact xsw_to x 0 (by omega)
  rcases Int.lt_or_le 1 x.toInt with h | h
  rotate_left
  · right; left; exact xsw_to x 1 (by omega)
  rcases Int.lt_or_le 2 x.toInt with h | h
  rotate_left
  · right; right; left; exact xsw_to x 2 (by omega)
  rcases Int.lt_or_le 3 x.toInt with h | h
  rotate_left
  · right; right; right; left; exact xsw_to x 3 (by omega)
  rcases Int.lt_or_le 4 x.toInt with h | h
  rotate_left
  · right; right; right; right; left; exact xsw_to x 4 (by omega)
  rcases Int.lt_or_le 5 x.toInt with h | h
  rotate_left
  · right; right; right; right; right; left; exact xsw_to x 5 (by omega)
  rcases Int.lt_or_le 6 x.toInt with h | h
  rotate_left
  · right; right; right; right; right; right; left; exact xsw_to x 6 (by omega)
  rcases Int.lt_or_le 7 x.toInt with h | h
  rotate_left
  · right; right; right; right; right; right; right; left; exact xsw_to x 7 (by omega)
  rcases Int.lt_or_le 8 x.toInt with h | h
  rotate_left
  · right; right; right; right; right; right; right; right; left; exact xsw_to x 8 (by omega)
  rcases Int.lt_or_le 9 x.toInt with h | h
  rotate_left
  · right; right; right; right; right; right; right; right; right; left; exact xsw_to x 9 (by omega)
  rcases Int.lt_or_le 10 x.toInt with h | h
  rotate_left
  · right; right; right; right; right; right; right; right; right; right; left; exact xsw_to x 10 (by omega)
  rcases Int.lt_or_le 11 x.toInt with h | h
  rotate_left
  · right; right; right; right; right; right; right; right; right; right; right; left; exact xsw_to x 11 (by omega)
  right; right; right; right; right; right; right; right; right; right; right; right; right; exact h
theorem xsw_0_11 (x : Int32) : x = nI 0 ∨ x = nI 1 ∨ x = nI 2 ∨ x = nI 3 ∨ x = nI 4 ∨ x = nI 5 ∨ x = nI 6 ∨ x = nI 7 ∨ x = nI 8 ∨ x = nI 9 ∨ x = nI 10 ∨ (x.toInt < 0 ∨ 10 < x.toInt) := by
  rcases Int.lt_or_le x.toInt 0 with h | h
  · right; right; right; right; right; right; right; right; right; right; right; left; exact h
  rcases Int.lt_or_le 0 x.toInt with h | h
  rotate_left
  · left; exact xsw_to x 0 (by omega)
  rcases Int.lt_or_le 1 x.toInt with h | h
  rotate_left
  · right; left; exact xsw_to x 1 (by omega)
  rcases Int.lt_or_le 2 x.toInt with h | h
  rotate_left
  · right; right; left; exact xsw_to x 2 (by omega)
  rcases Int.lt_or_le 3 x.toInt with h | h
  rotate_left
  · right; right; right; left; exact xsw_to x 3 (by omega)
  rcases Int.lt_or_le 4 x.toInt with h | h
  rotate_left
  · right; right; right; right; left; exact xsw_to x 4 (by omega)
  rcases Int.lt_or_le 5 x.toInt with h | h
  rotate_left
  · right; right; right; right; right; left; exact xsw_to x 5 (by omega)
  rcases Int.lt_or_le 6 x.toInt with h | h
  rotate_left
  · right; right; right; right; right; right; left; exact xsw_to x 6 (by omega)
  rcases Int.lt_or_le 7 x.toInt with h | h
  rotate_left
  · right; right; right; right; right; right; right; left; exact xsw_to x 7 (by omega)
  rcases Int.lt_or_le 8 x.toInt with h | h
  rotate_left
  · right; right; right; right; right; right; right; right; left; exact xsw_to x 8 (by omega)
  rcases Int.lt_or_le 9 x.toInt with h | h
  rotate_left
  · right; right; right; right; right; right; right; right; right; left; exact xsw_to x 9 (by omega)
  rcases Int.lt_or_le 10 x.toInt with h | h
  rotate_left
  · right; right; right; right; right; right; right; right; right; right; left; exact xsw_to x 10 (by omega)
  right; right; right; right; right; right; right; right; right; right; right; right; exact h
theorem xsw_0_5 (x : Int32) : x = nI 0 ∨ x = nI 1 ∨ x = nI 2 ∨ x = nI 3 ∨ x = nI 4 ∨ (x.toInt < 0 ∨ 4 < x.toInt) := by
  rcases Int.lt_or_le x.toInt 0 with h | h
  · right; right; right; right; right; left; exact h
  rcases Int.lt_or_le 0 x.toInt with h | h
  rotate_left
  · left; exact xsw_to x 0 (by omega)
  rcases Int.lt_or_le 1 x.toInt with h | h
  rotate_left
  · right; left; exact xsw_to x 1 (by omega)
  rcases Int.lt_or_le 2 x.toInt with h | h
  rotate_left
  · right; right; left; exact xsw_to x 2 (by omega)
  rcases Int.lt_or_le 3 x.toInt with h | h
  rotate_left
  · right; right; right; left; exact xsw_to x 3 (by omega)
  rcases Int.lt_or_le 4 x.toInt with h | h
  rotate_left
  · right; right; right; right; left; exact xsw_to x 4 (by omega)
  right; right; right; right; right; right; exact h
theorem xsw_0_4 (x : Int32) : x = nI 0 ∨ x = nI 1 ∨ x = nI 2 ∨ x = nI 3 ∨ (x.toInt < 0 ∨ 3 < x.toInt) := by
  rcases Int.lt_or_le x.toInt 0 with h | h
  · right; right; right; right; left; exact h
  rcases Int.lt_or_le 0 x.toInt with h | h
  rotate_left
  · left; exact xsw_to x 0 (by omega)
  rcases Int.lt_or_le 1 x.toInt with h | h
  rotate_left
  · right; left; exact xsw_to x 1 (by omega)
  rcases Int.lt_or_le 2 x.toInt with h | h
  rotate_left
  · right; right; left; exact xsw_to x 2 (by omega)
  rcases Int.lt_or_le 3 x.toInt with h | h
  rotate_left
  · right; right; right; left; exact xsw_to x 3 (by omega)
  right; right; right; right; right; exact h
theorem xsw_1_3 (x : Int32) : x = nI 1 ∨ x = nI 2 ∨ x = nI 3 ∨ (x.toInt < 1 ∨ 3 < x.toInt) := by
  rcases Int.lt_or_le x.toInt 1 with h | h
  · right; right; right; left; exact h
  rcases Int.lt_or_le 1 x.toInt with h | h
  rotate_left
  · left; exact xsw_to x 1 (by omega)
  rcases Int.lt_or_le 2 x.toInt with h | h
  rotate_left
  · right; left; exact xsw_to x 2 (by omega)
  rcases Int.lt_or_le 3 x.toInt with h | h
  rotate_left
  · right; right; left; exact xsw_to x 3 (by omega)
  right; right; right; right; exact h
theorem xsw_2_14 (x : Int32) : x = nI 2 ∨ x = nI 3 ∨ x = nI 4 ∨ x = nI 5 ∨ x = nI 6 ∨ x = nI 7 ∨ x = nI 8 ∨ x = nI 9 ∨ x = nI 10 ∨ x = nI 11 ∨ x = nI 12 ∨ x = nI 13 ∨ x = nI 14 ∨ x = nI 15 ∨ (x.toInt < 2 ∨ 15 < x.toInt) := by
  rcases Int.lt_or_le x.toInt 2 with h | h
  · right; right; right; right; right; right; right; right; right; right; right; right; right; right; left; exact h
  rcases Int.lt_or_le 2 x.toInt with h | h
  rotate_left
  · left; exact xsw_to x 2 (by omega)
  rcases Int.lt_or_le 3 x.toInt with h | h
  rotate_left
  · right; left; exact xsw_to x 3 (by omega)
  rcases Int.lt_or_le 4 x.toInt with h | h
  rotate_left
  · right; right; left; exact xsw_to x 4 (by omega)
  rcases Int.lt_or_le 5 x.toInt with h | h
  rotate_left
  · right; right; right; left; exact xsw_to x 5 (by omega)
  rcases Int.lt_or_le 6 x.toInt with h | h
  rotate_left
  · right; right; right; right; left; exact xsw_to x 6 (by omega)
  rcases Int.lt_or_le 7 x.toInt with h | h
  rotate_left
  · right; right; right; right; right; left; exact xsw_to x 7 (by omega)
  rcases Int.lt_or_le 8 x.toInt with h | h
  rotate_left
  · right; right; right; right; right; right; left; exact xsw_to x 8 (by omega)
  rcases Int.lt_or_le 9 x.toInt with h | h
  rotate_left
  · right; right; right; right; right; right; right; left; exact xsw_to x 9 (by omega)
  rcases Int.lt_or_le 10 x.toInt with h | h
  rotate_left
  · right; right; right; right; right; right; right; right; left; exact xsw_to x 10 (by omega)
  rcases Int.lt_or_le 11 x.toInt with h | h
  rotate_left
  · right; right; right; right; right; right; right; right; right; left; exact xsw_to x 11 (by omega)
  rcases Int.lt_or_le 12 x.toInt with h | h
  rotate_left
  · right; right; right; right; right; right; right; right; right; right; left; exact xsw_to x 12 (by omega)
  rcases Int.lt_or_le 13 x.toInt with h | h
  rotate_left
  · right; right; right; right; right; right; right; right; right; right; right; left; exact xsw_to x 13 (by omega)
  rcases Int.lt_or_le 14 x.toInt with h | h
  rotate_left
  · right; right; right; right; right; right; right; right; right; right; right; right; left; exact xsw_to x 14 (by omega)
  rcases Int.lt_or_le 15 x.toInt with h | h
  rotate_left
  · right; right; right; right; right; right; right; right; right; right; right; right; right; left; exact xsw_to x 15 (by omega)
  right; right; right; right; right; right; right; right; right; right; right; right; right; right; right; exact h
theorem xsw_2_10 (x : Int32) : x = nI 2 ∨ x = nI 3 ∨ x = nI 4 ∨ x = nI 5 ∨ x = nI 6 ∨ x = nI 7 ∨ x = nI 8 ∨ x = nI 9 ∨ x = nI 10 ∨ x = nI 11 ∨ (x.toInt < 2 ∨ 11 < x.toInt) := by
  rcases Int.lt_or_le x.toInt 2 with h | h
  · right; right; right; right; right; right; right; right; right; right; left; exact h
  rcases Int.lt_or_le 2 x.toInt with h | h
  rotate_left
  · left; exact xsw_to x 2 (by omega)
  rcases Int.lt_or_le 3 x.toInt with h | h
  rotate_left
  · right; left; exact xsw_to x 3 (by omega)
  rcases Int.lt_or_le 4 x.toInt with h | h
  rotate_left
  · right; right; left; exact xsw_to x 4 (by omega)
  rcases Int.lt_or_le 5 x.toInt with h | h
  rotate_left
  · right; right; right; left; exact xsw_to x 5 (by omega)
  rcases Int.lt_or_le 6 x.toInt with h | h
  rotate_left
  · right; right; right; right; left; exact xsw_to x 6 (by omega)
  rcases Int.lt_or_le 7 x.toInt with h | h
  rotate_left
  · right; right; right; right; right; left; exact xsw_to x 7 (by omega)
  rcases Int.lt_or_le 8 x.toInt with h | h
  rotate_left
  · right; right; right; right; right; right; left; exact xsw_to x 8 (by omega)
  rcases Int.lt_or_le 9 x.toInt with h | h
  rotate_left
  · right; right; right; right; right; right; right; left; exact xsw_to x 9 (by omega)
  rcases Int.lt_or_le 10 x.toInt with h | h
  rotate_left
  · right; right; right; right; right; right; right; right; left; exact xsw_to x 10 (by omega)
  rcases Int.lt_or_le 11 x.toInt with h | h
  rotate_left
  · right; right; right; right; right; right; right; right; right; left; exact xsw_to x 11 (by omega)
  right; right; right; right; right; right; right; right; right; right; right; exact h
theorem xsw_2_11 (x : Int32) : x = nI 2 ∨ x = nI 3 ∨ x = nI 4 ∨ x = nI 5 ∨ x = nI 6 ∨ x = nI 7 ∨ x = nI 8 ∨ x = nI 9 ∨ x = nI 10 ∨ x = nI 11 ∨ x = nI 12 ∨ (x.toInt < 2 ∨ 12 < x.toInt) := by
  rcases Int.lt_or_le x.toInt 2 with h | h
  · right; right; right; right; right; right; right; right; right; right; right; left; exact h
  rcases Int.lt_or_le 2 x.toInt with h | h
  rotate_left
  · left; exact xsw_to x 2 (by omega)
  rcases Int.lt_or_le 3 x.toInt with h | h
  rotate_left
  · right; left; exact xsw_to x 3 (by omega)
  rcases Int.lt_or_le 4 x.toInt with h | h
  rotate_left
  · right; right; left; exact xsw_to x 4 (by omega)
  rcases Int.lt_or_le 5 x.toInt with h | h
  rotate_left
  · right; right; right; left; exact xsw_to x 5 (by omega)
  rcases Int.lt_or_le 6 x.toInt with h | h
  rotate_left
  · right; right; right; right; left; exact xsw_to x 6 (by omega)
  rcases Int.lt_or_le 7 x.toInt with h | h
  rotate_left
  · right; right; right; right; right; left; exact xsw_to x 7 (by omega)
  rcases Int.lt_or_le 8 x.toInt with h | h
  rotate_left
  · right; right; right; right; right; right; left; exact xsw_to x 8 (by omega)
  rcases Int.lt_or_le 9 x.toInt with h | h
  rotate_left
  · right; right; right; right; right; right; right; left; exact xsw_to x 9 (by omega)
  rcases Int.lt_or_le 10 x.toInt with h | h
  rotate_left
  · right; right; right; right; right; right; right; right; left; exact xsw_to x 10 (by omega)
  rcases Int.lt_or_le 11 x.toInt with h | h
  rotate_left
  · right; right; right; right; right; right; right; right; right; left; exact xsw_to x 11 (by omega)
  rcases Int.lt_or_le 12 x.toInt with h | h
  rotate_left
  · right; right; right; right; right; right; right; right; right; right; left; exact xsw_to x 12 (by omega)
  right; right; right; right; right; right; right; right; right; right; right; right; exact h
theorem xdf_X0 : ∀ j, j < 5 → defaultValue (tyX0 j) = vp_V [.null, .null, .null, .int 0, .int 0] j := fun j hj => match j, hj with
  | 0, _ => rfl
  | 1, _ => rfl
  | 2, _ => rfl
  | 3, _ => rfl
  | 4, _ => rfl
  | k + 5, hj => absurd hj (by omega)
theorem xdf_X1 : ∀ j, j < 7 → defaultValue (tyX1 j) = vp_V [.null, .null, .null, .int 0, .int 0, .int 0, .null] j := fun j hj => match j, hj with
  | 0, _ => rfl
  | 1, _ => rfl
  | 2, _ => rfl
  | 3, _ => rfl
  | 4, _ => rfl
  | 5, _ => rfl
  | 6, _ => rfl
  | k + 7, hj => absurd hj (by omega)
theorem xdf_X2 : ∀ j, j < 4 → defaultValue (tyX2 j) = vp_V [.null, .null, .null, .null] j := fun j hj => match j, hj with
  | 0, _ => rfl
  | 1, _ => rfl
  | 2, _ => rfl
  | 3, _ => rfl
  | k + 4, hj => absurd hj (by omega)
theorem xdf_X3 : ∀ j, j < 12 → defaultValue (tyX3 j) = vp_V [.int 0, .int 0, .int 0, .int 0, .int 0, .null, .null, .null, .null, .null, .null, .null] j := fun j hj => match j, hj with
  | 0, _ => rfl
  | 1, _ => rfl
  | 2, _ => rfl
  | 3, _ => rfl
  | 4, _ => rfl
  | 5, _ => rfl
  | 6, _ => rfl
  | 7, _ => rfl
  | 8, _ => rfl
  | 9, _ => rfl
  | 10, _ => rfl
  | 11, _ => rfl
  | k + 12, hj => absurd hj (by omega)
theorem xdf_X4 : ∀ j, j < 2 → defaultValue (tyX4 j) = vp_V [.null, .null] j := fun j hj => match j, hj with
  | 0, _ => rfl
  | 1, _ => rfl
  | k + 2, hj => absurd hj (by omega)
theorem xdf_X5 : ∀ j, j < 2 → defaultValue (tyX5 j) = vp_V [.null, .null] j := fun j hj => match j, hj with
  | 0, _ => rfl
  | 1, _ => rfl
  | k + 2, hj => absurd hj (by omega)
theorem xdf_X6 : ∀ j, j < 5 → defaultValue (tyX6 j) = vp_V [.null, .null, .null, .int 0, .int 0] j := fun j hj => match j, hj with
  | 0, _ => rfl
  | 1, _ => rfl
  | 2, _ => rfl
  | 3, _ => rfl
  | 4, _ => rfl
  | k + 5, hj => absurd hj (by omega)
theorem xdf_X7 : ∀ j, j < 8 → defaultValue (tyX7 j) = vp_V [.null, .int 0, .int 0, .int 0, .int 0, .int 0, .int 0, .int 0] j := fun j hj => match j, hj with
  | 0, _ => rfl
  | 1, _ => rfl
  | 2, _ => rfl
  | 3, _ => rfl
  | 4, _ => rfl
  | 5, _ => rfl
  | 6, _ => rfl
  | 7, _ => rfl
  | k + 8, hj => absurd hj (by omega)
theorem xdf_X8 : ∀ j, j < 1 → defaultValue (tyX8 j) = vp_V [.null] j := fun j hj => match j, hj with
  | 0, _ => rfl
  | k + 1, hj => absurd hj (by omega)
theorem xdf_X9 : ∀ j, j < 4 → defaultValue (tyX9 j) = vp_V [.null, .null, .int 0, .int 0] j := fun j hj => match j, hj with
  | 0, _ => rfl
  | 1, _ => rfl
  | 2, _ => rfl
  | 3, _ => rfl
  | k + 4, hj => absurd hj (by omega)
theorem xdf_X10 : ∀ j, j < 8 → defaultValue (tyX10 j) = vp_V [.null, .null, .int 0, .int 0, .int 0, .null, .int 0, .int 0] j := fun j hj => match j, hj with
  | 0, _ => rfl
  | 1, _ => rfl
  | 2, _ => rfl
  | 3, _ => rfl
  | 4, _ => rfl
  | 5, _ => rfl
  | 6, _ => rfl
  | 7, _ => rfl
  | k + 8, hj => absurd hj (by omega)
theorem xdf_X11 : ∀ j, j < 11 → defaultValue (tyX11 j) = vp_V [.null, .int 0, .null, .null, .null, .int 0, .null, .null, .null, .null, .null] j := fun j hj => match j, hj with
  | 0, _ => rfl
  | 1, _ => rfl
  | 2, _ => rfl
  | 3, _ => rfl
  | 4, _ => rfl
  | 5, _ => rfl
  | 6, _ => rfl
  | 7, _ => rfl
  | 8, _ => rfl
  | 9, _ => rfl
  | 10, _ => rfl
  | k + 11, hj => absurd hj (by omega)
theorem xdf_X12 : ∀ j, j < 65 → defaultValue (tyX12 j) = vp_V [.int 0, .null, .null, .null, .null, .null, .null, .null, .null, .null, .null, .null, .null, .null, .null, .null, .null, .null, .null, .null, .null, .null, .null, .null, .null, .null, .null, .int 0, .int 0, .int 0, .int 0, .int 0, .int 0, .int 0, .int 0, .int 0, .int 0, .null, .null, .null, .null, .null, .null, .null, .null, .null, .null, .null, .null, .int 0, .int 0, .int 0, .int 0, .int 0, .null, .null, .null, .int 0, .int 0, .null, .null, .null, .null, .int 0, .int 0] j := fun j hj => match j, hj with
  | 0, _ => rfl
  | 1, _ => rfl
  | 2, _ => rfl
  | 3, _ => rfl
  | 4, _ => rfl
  | 5, _ => rfl
  | 6, _ => rfl
  | 7, _ => rfl
  | 8, _ => rfl
  | 9, _ => rfl
  | 10, _ => rfl
  | 11, _ => rfl
  | 12, _ => rfl
  | 13, _ => rfl
  | 14, _ => rfl
  | 15, _ => rfl
  | 16, _ => rfl
  | 17, _ => rfl
  | 18, _ => rfl
  | 19, _ => rfl
  | 20, _ => rfl
  | 21, _ => rfl
  | 22, _ => rfl
  | 23, _ => rfl
  | 24, _ => rfl
  | 25, _ => rfl
  | 26, _ => rfl
  | 27, _ => rfl
  | 28, _ => rfl
  | 29, _ => rfl
  | 30, _ => rfl
  | 31, _ => rfl
  | 32, _ => rfl
  | 33, _ => rfl
  | 34, _ => rfl
  | 35, _ => rfl
  | 36, _ => rfl
  | 37, _ => rfl
  | 38, _ => rfl
  | 39, _ => rfl
  | 40, _ => rfl
  | 41, _ => rfl
  | 42, _ => rfl
  | 43, _ => rfl
  | 44, _ => rfl
  | 45, _ => rfl
  | 46, _ => rfl
  | 47, _ => rfl
  | 48, _ => rfl
  | 49, _ => rfl
  | 50, _ => rfl
  | 51, _ => rfl
  | 52, _ => rfl
  | 53, _ => rfl
  | 54, _ => rfl
  | 55, _ => rfl
  | 56, _ => rfl
  | 57, _ => rfl
  | 58, _ => rfl
  | 59, _ => rfl
  | 60, _ => rfl
  | 61, _ => rfl
  | 62, _ => rfl
  | 63, _ => rfl
  | 64, _ => rfl
  | k + 65, hj => absurd hj (by omega)
