/-! ===== rows over naturals: .int (nI n) ===== -/
theorem nIs (k : Nat) : nI k + Int32.ofInt 1 = nI (k + 1) := by rw [show Int32.ofInt 1 = 1 from rfl]; exact nI_1 k
theorem nId {k : Nat} (h : 0 < k) : nI k + Int32.ofInt (-1) = nI (k - 1) := by
  obtain ⟨j, rfl⟩ : ∃ j, k = j + 1 := ⟨k - 1, by omega⟩
  rw [show Int32.ofInt (-1) = -1 by decide]
  exact pk_m1 j
theorem nI_neg1 (k : Nat) : ¬ nI k = -1 ∨ 2147483648 ≤ k := by
  rcases Nat.lt_or_ge k 2147483648 with h | h
  · left
    intro e
    have h1 := nI_toInt (n := k) h
    rw [e] at h1
    have : ((-1 : Int32)).toInt = -1 := by decide
    omega
  · right; exact h
theorem nI_ne1 {k : Nat} (h : k < 2 ^ 31) : ¬ nI k = -1 := by
  rcases nI_neg1 k with h1 | h1
  · exact h1
  · omega
theorem nI_ne1' {k : Nat} (h : k < 2 ^ 31) : ¬ (-1 : Int32) = nI k := fun e => nI_ne1 h e.symm
section XN
variable {K : xG} {M N : xM} {d d' cb sb mc ms h : Nat} {G : xHp} {pc : Nat} {ls ls' : List (Nat × Value)} {st : List Value} {Q Q' : xPost} {a b : Nat}
theorem x_iaddN (hd : decode M.2.1 pc = .ok (.iadd, 1)) (k : xV K M d cb sb h G (pc + 1) ls (.int (nI (a + b)) :: st) Q) : xV K M d cb sb h G pc ls (.int (nI b) :: .int (nI a) :: st) Q := x_iadd hd (x_topi (nI_add a b) k)
theorem x_imulN (hd : decode M.2.1 pc = .ok (.imul, 1)) (k : xV K M d cb sb h G (pc + 1) ls (.int (nI (a * b)) :: st) Q) : xV K M d cb sb h G pc ls (.int (nI b) :: .int (nI a) :: st) Q := x_imul hd (x_topi (pk_mul a b) k)
theorem x_isubN (hd : decode M.2.1 pc = .ok (.isub, 1)) (hle : b ≤ a) (k : xV K M d cb sb h G (pc + 1) ls (.int (nI (a - b)) :: st) Q) : xV K M d cb sb h G pc ls (.int (nI b) :: .int (nI a) :: st) Q := x_isub hd (x_topi (pk_sub hle) k)
theorem x_idivN (hd : decode M.2.1 pc = .ok (.idiv, 1)) (ha : a < 2 ^ 31) (h0 : 0 < b) (hb : b < 2 ^ 31) (k : xV K M d cb sb h G (pc + 1) ls (.int (nI (a / b)) :: st) Q) : xV K M d cb sb h G pc ls (.int (nI b) :: .int (nI a) :: st) Q := x_idiv hd (nI_ne0 h0 hb) (x_topi (pk_div ha h0 hb) k)
theorem x_iremN (hd : decode M.2.1 pc = .ok (.irem, 1)) (ha : a < 2 ^ 31) (h0 : 0 < b) (hb : b < 2 ^ 31) (k : xV K M d cb sb h G (pc + 1) ls (.int (nI (a % b)) :: st) Q) : xV K M d cb sb h G pc ls (.int (nI b) :: .int (nI a) :: st) Q := x_irem hd (nI_ne0 h0 hb) (x_topi (pk_rem ha h0 hb) k)
theorem x_icmpN_eq {off : Int} {tgt : Nat} (hd : decode M.2.1 pc = .ok (.if_icmp .eq off, 3)) (ht : (pc : Int) + off = (tgt : Int)) (ha : a < 2 ^ 31) (hb : b < 2 ^ 31) (kt : a = b → xV K M d cb sb h G tgt ls st Q) (kf : ¬ a = b → xV K M d cb sb h G (pc + 3) ls st Q) : xV K M d cb sb h G pc ls (.int (nI b) :: .int (nI a) :: st) Q := x_icmp_eq hd ht (fun q => kt ((nI_eq ha hb).mp q)) (fun q => kf (fun z => q ((nI_eq ha hb).mpr z)))
theorem x_icmpN_ne {off : Int} {tgt : Nat} (hd : decode M.2.1 pc = .ok (.if_icmp .ne off, 3)) (ht : (pc : Int) + off = (tgt : Int)) (ha : a < 2 ^ 31) (hb : b < 2 ^ 31) (kt : ¬ a = b → xV K M d cb sb h G tgt ls st Q) (kf : a = b → xV K M d cb sb h G (pc + 3) ls st Q) : xV K M d cb sb h G pc ls (.int (nI b) :: .int (nI a) :: st) Q := x_icmp_ne hd ht (fun q => kt (fun z => q ((nI_eq ha hb).mpr z))) (fun q => kf ((nI_eq ha hb).mp q))
theorem x_icmpN_lt {off : Int} {tgt : Nat} (hd : decode M.2.1 pc = .ok (.if_icmp .lt off, 3)) (ht : (pc : Int) + off = (tgt : Int)) (ha : a < 2 ^ 31) (hb : b < 2 ^ 31) (kt : a < b → xV K M d cb sb h G tgt ls st Q) (kf : b ≤ a → xV K M d cb sb h G (pc + 3) ls st Q) : xV K M d cb sb h G pc ls (.int (nI b) :: .int (nI a) :: st) Q := x_icmp_lt hd ht (fun q => kt ((nI_ltI ha hb).mp q)) (fun q => kf (Nat.not_lt.mp (fun z => q ((nI_ltI ha hb).mpr z))))
theorem x_icmpN_ge {off : Int} {tgt : Nat} (hd : decode M.2.1 pc = .ok (.if_icmp .ge off, 3)) (ht : (pc : Int) + off = (tgt : Int)) (ha : a < 2 ^ 31) (hb : b < 2 ^ 31) (kt : b ≤ a → xV K M d cb sb h G tgt ls st Q) (kf : a < b → xV K M d cb sb h G (pc + 3) ls st Q) : xV K M d cb sb h G pc ls (.int (nI b) :: .int (nI a) :: st) Q := x_icmp_ge hd ht (fun q => kt ((nI_leI hb ha).mp q)) (fun q => kf (Nat.not_le.mp (fun z => q ((nI_leI hb ha).mpr z))))
theorem x_icmpN_gt {off : Int} {tgt : Nat} (hd : decode M.2.1 pc = .ok (.if_icmp .gt off, 3)) (ht : (pc : Int) + off = (tgt : Int)) (ha : a < 2 ^ 31) (hb : b < 2 ^ 31) (kt : b < a → xV K M d cb sb h G tgt ls st Q) (kf : a ≤ b → xV K M d cb sb h G (pc + 3) ls st Q) : xV K M d cb sb h G pc ls (.int (nI b) :: .int (nI a) :: st) Q := x_icmp_gt hd ht (fun q => kt ((nI_ltI hb ha).mp q)) (fun q => kf (Nat.not_lt.mp (fun z => q ((nI_ltI hb ha).mpr z))))
theorem x_icmpN_le {off : Int} {tgt : Nat} (hd : decode M.2.1 pc = .ok (.if_icmp .le off, 3)) (ht : (pc : Int) + off = (tgt : Int)) (ha : a < 2 ^ 31) (hb : b < 2 ^ 31) (kt : a ≤ b → xV K M d cb sb h G tgt ls st Q) (kf : b < a → xV K M d cb sb h G (pc + 3) ls st Q) : xV K M d cb sb h G pc ls (.int (nI b) :: .int (nI a) :: st) Q := x_icmp_le hd ht (fun q => kt ((nI_leI ha hb).mp q)) (fun q => kf (Nat.not_le.mp (fun z => q ((nI_leI ha hb).mpr z))))
theorem x_ifN_eq {off : Int} {tgt : Nat} (hd : decode M.2.1 pc = .ok (.ifCond .eq off, 3)) (ht : (pc : Int) + off = (tgt : Int)) (ha : a < 2 ^ 31) (kt : a = 0 → xV K M d cb sb h G tgt ls st Q) (kf : ¬ a = 0 → xV K M d cb sb h G (pc + 3) ls st Q) : xV K M d cb sb h G pc ls (.int (nI a) :: st) Q := x_if_eq hd ht (fun q => kt (by have := (nI_eq (b := 0) ha (by decide)).mp q; exact this)) (fun q => kf (fun z => q (by rw [z]; rfl)))
theorem x_ifN_ne {off : Int} {tgt : Nat} (hd : decode M.2.1 pc = .ok (.ifCond .ne off, 3)) (ht : (pc : Int) + off = (tgt : Int)) (ha : a < 2 ^ 31) (kt : ¬ a = 0 → xV K M d cb sb h G tgt ls st Q) (kf : a = 0 → xV K M d cb sb h G (pc + 3) ls st Q) : xV K M d cb sb h G pc ls (.int (nI a) :: st) Q := x_if_ne hd ht (fun q => kt (fun z => q (by rw [z]; rfl))) (fun q => kf (by have := (nI_eq (b := 0) ha (by decide)).mp q; exact this))
theorem x_ifN_lt {off : Int} {tgt : Nat} (hd : decode M.2.1 pc = .ok (.ifCond .lt off, 3)) (ht : (pc : Int) + off = (tgt : Int)) (ha : a < 2 ^ 31) (kt : False → xV K M d cb sb h G tgt ls st Q) (kf : True → xV K M d cb sb h G (pc + 3) ls st Q) : xV K M d cb sb h G pc ls (.int (nI a) :: st) Q := x_if_lt hd ht (fun q => absurd q (nI_pos ha)) (fun q => kf trivial)
theorem x_ifN_ge {off : Int} {tgt : Nat} (hd : decode M.2.1 pc = .ok (.ifCond .ge off, 3)) (ht : (pc : Int) + off = (tgt : Int)) (ha : a < 2 ^ 31) (kt : True → xV K M d cb sb h G tgt ls st Q) (kf : False → xV K M d cb sb h G (pc + 3) ls st Q) : xV K M d cb sb h G pc ls (.int (nI a) :: st) Q := x_if_ge hd ht (fun q => kt trivial) (fun q => absurd (nI_pos' ha) q)
theorem x_ifN_gt {off : Int} {tgt : Nat} (hd : decode M.2.1 pc = .ok (.ifCond .gt off, 3)) (ht : (pc : Int) + off = (tgt : Int)) (ha : a < 2 ^ 31) (kt : 0 < a → xV K M d cb sb h G tgt ls st Q) (kf : a = 0 → xV K M d cb sb h G (pc + 3) ls st Q) : xV K M d cb sb h G pc ls (.int (nI a) :: st) Q := x_if_gt hd ht (fun q => kt ((nI_ltI (a := 0) (by decide) ha).mp q)) (fun q => kf (by rcases Nat.eq_zero_or_pos a with z | z; exact z; exact absurd ((nI_ltI (a := 0) (by decide) ha).mpr z) q))
theorem x_ifN_le {off : Int} {tgt : Nat} (hd : decode M.2.1 pc = .ok (.ifCond .le off, 3)) (ht : (pc : Int) + off = (tgt : Int)) (ha : a < 2 ^ 31) (kt : a = 0 → xV K M d cb sb h G tgt ls st Q) (kf : 0 < a → xV K M d cb sb h G (pc + 3) ls st Q) : xV K M d cb sb h G pc ls (.int (nI a) :: st) Q := x_if_le hd ht (fun q => kt (Nat.le_zero.mp ((nI_leI (b := 0) ha (by decide)).mp q))) (fun q => kf (by rcases Nat.eq_zero_or_pos a with z | z; exact absurd ((nI_leI (b := 0) ha (by decide)).mpr (Nat.le_of_eq z)) q; exact z))
theorem x_ialdN {q n : Nat} {f : Nat → Int32} (hd : decode M.2.1 pc = .ok (.iaload, 1)) (hc : G q = some (eI 0 n f)) (hi : a < n) (hn : n < 2 ^ 31) (k : xV K M d cb sb h G (pc + 1) ls (.int (f a) :: st) Q) : xV K M d cb sb h G pc ls (.int (nI a) :: .ref q :: st) Q := x_iald hd hc (vp_in_nI hi hn) (by rw [nI_clamp (Nat.lt_trans hi hn)]; exact k)
theorem x_baldN {q n : Nat} {f : Nat → Int32} (hd : decode M.2.1 pc = .ok (.baload, 1)) (hc : G q = some (eI 1 n f)) (hi : a < n) (hn : n < 2 ^ 31) (k : xV K M d cb sb h G (pc + 1) ls (.int (f a) :: st) Q) : xV K M d cb sb h G pc ls (.int (nI a) :: .ref q :: st) Q := x_bald hd hc (vp_in_nI hi hn) (by rw [nI_clamp (Nat.lt_trans hi hn)]; exact k)
theorem x_zaldN {q n : Nat} {f : Nat → Int32} (hd : decode M.2.1 pc = .ok (.baload, 1)) (hc : G q = some (eI 2 n f)) (hi : a < n) (hn : n < 2 ^ 31) (k : xV K M d cb sb h G (pc + 1) ls (.int (f a) :: st) Q) : xV K M d cb sb h G pc ls (.int (nI a) :: .ref q :: st) Q := x_zald hd hc (vp_in_nI hi hn) (by rw [nI_clamp (Nat.lt_trans hi hn)]; exact k)
theorem x_laldN {q n : Nat} {f : Nat → Int64} (hd : decode M.2.1 pc = .ok (.laload, 1)) (hc : G q = some (eJ n f)) (hi : a < n) (hn : n < 2 ^ 31) (k : xV K M d cb sb h G (pc + 1) ls (.long (f a) :: st) Q) : xV K M d cb sb h G pc ls (.int (nI a) :: .ref q :: st) Q := x_lald hd hc (vp_in_nI hi hn) (by rw [nI_clamp (Nat.lt_trans hi hn)]; exact k)
theorem x_aald4N {q n : Nat} {f : Nat → Option Nat} (hd : decode M.2.1 pc = .ok (.aaload, 1)) (hc : G q = some (eQ 0 n f)) (hi : a < n) (hn : n < 2 ^ 31) (k : xV K M d cb sb h G (pc + 1) ls (va_rf (f a) :: st) Q) : xV K M d cb sb h G pc ls (.int (nI a) :: .ref q :: st) Q := x_aald4 hd hc (vp_in_nI hi hn) (by rw [nI_clamp (Nat.lt_trans hi hn)]; exact k)
theorem x_aald5N {q n : Nat} {f : Nat → Option Nat} (hd : decode M.2.1 pc = .ok (.aaload, 1)) (hc : G q = some (eQ 1 n f)) (hi : a < n) (hn : n < 2 ^ 31) (k : xV K M d cb sb h G (pc + 1) ls (va_rf (f a) :: st) Q) : xV K M d cb sb h G pc ls (.int (nI a) :: .ref q :: st) Q := x_aald5 hd hc (vp_in_nI hi hn) (by rw [nI_clamp (Nat.lt_trans hi hn)]; exact k)
theorem x_iastN {q n : Nat} {f : Nat → Int32} {x : Int32} (hd : decode M.2.1 pc = .ok (.iastore, 1)) (hc : G q = some (eI 0 n f)) (hi : a < n) (hn : n < 2 ^ 31) (k : xV K M d cb sb h (xup G q (eI 0 n (upd f a x))) (pc + 1) ls st Q) : xV K M d cb sb h G pc ls (.int x :: .int (nI a) :: .ref q :: st) Q := x_iast hd hc (vp_in_nI hi hn) (by rw [nI_clamp (Nat.lt_trans hi hn)]; exact k)
theorem x_bastN {q n : Nat} {f : Nat → Int32} {x : Int32} (hd : decode M.2.1 pc = .ok (.bastore, 1)) (hc : G q = some (eI 1 n f)) (hi : a < n) (hn : n < 2 ^ 31) (k : xV K M d cb sb h (xup G q (eI 1 n (upd f a (vp_nar .byte x)))) (pc + 1) ls st Q) : xV K M d cb sb h G pc ls (.int x :: .int (nI a) :: .ref q :: st) Q := x_bast hd hc (vp_in_nI hi hn) (by rw [nI_clamp (Nat.lt_trans hi hn)]; exact k)
theorem x_zastN {q n : Nat} {f : Nat → Int32} {x : Int32} (hd : decode M.2.1 pc = .ok (.bastore, 1)) (hc : G q = some (eI 2 n f)) (hi : a < n) (hn : n < 2 ^ 31) (k : xV K M d cb sb h (xup G q (eI 2 n (upd f a (vp_nar .boolean x)))) (pc + 1) ls st Q) : xV K M d cb sb h G pc ls (.int x :: .int (nI a) :: .ref q :: st) Q := x_zast hd hc (vp_in_nI hi hn) (by rw [nI_clamp (Nat.lt_trans hi hn)]; exact k)
theorem x_lastN {q n : Nat} {f : Nat → Int64} {x : Int64} (hd : decode M.2.1 pc = .ok (.lastore, 1)) (hc : G q = some (eJ n f)) (hi : a < n) (hn : n < 2 ^ 31) (k : xV K M d cb sb h (xup G q (eJ n (vp_updL f a x))) (pc + 1) ls st Q) : xV K M d cb sb h G pc ls (.long x :: .int (nI a) :: .ref q :: st) Q := x_last hd hc (vp_in_nI hi hn) (by rw [nI_clamp (Nat.lt_trans hi hn)]; exact k)
end XN
theorem ki_0 : Int32.ofInt 0 = nI 0 := by decide +kernel
theorem ki_1 : Int32.ofInt 1 = nI 1 := by decide +kernel
theorem ki_2 : Int32.ofInt 2 = nI 2 := by decide +kernel
theorem ki_3 : Int32.ofInt 3 = nI 3 := by decide +kernel
theorem ki_4 : Int32.ofInt 4 = nI 4 := by decide +kernel
theorem ki_5 : Int32.ofInt 5 = nI 5 := by decide +kernel
theorem ki_m1 : Int32.ofInt (-1) = -1 := by decide +kernel
theorem kb_m3 : (Int8.ofInt (-3)).toInt32 = -3 := by decide +kernel
theorem kb_m2 : (Int8.ofInt (-2)).toInt32 = -2 := by decide +kernel
theorem kb_6 : (Int8.ofInt 6).toInt32 = nI 6 := by decide +kernel
theorem kb_7 : (Int8.ofInt 7).toInt32 = nI 7 := by decide +kernel
theorem kb_8 : (Int8.ofInt 8).toInt32 = nI 8 := by decide +kernel
theorem kb_9 : (Int8.ofInt 9).toInt32 = nI 9 := by decide +kernel
theorem kb_10 : (Int8.ofInt 10).toInt32 = nI 10 := by decide +kernel
theorem kb_11 : (Int8.ofInt 11).toInt32 = nI 11 := by decide +kernel
theorem kb_12 : (Int8.ofInt 12).toInt32 = nI 12 := by decide +kernel
theorem kb_13 : (Int8.ofInt 13).toInt32 = nI 13 := by decide +kernel
theorem kb_14 : (Int8.ofInt 14).toInt32 = nI 14 := by decide +kernel
theorem kb_15 : (Int8.ofInt 15).toInt32 = nI 15 := by decide +kernel
theorem kb_16 : (Int8.ofInt 16).toInt32 = nI 16 := by decide +kernel
theorem kb_17 : (Int8.ofInt 17).toInt32 = nI 17 := by decide +kernel
theorem kb_20 : (Int8.ofInt 20).toInt32 = nI 20 := by decide +kernel
theorem kb_21 : (Int8.ofInt 21).toInt32 = nI 21 := by decide +kernel
theorem kb_24 : (Int8.ofInt 24).toInt32 = nI 24 := by decide +kernel
theorem kb_28 : (Int8.ofInt 28).toInt32 = nI 28 := by decide +kernel
theorem kb_30 : (Int8.ofInt 30).toInt32 = nI 30 := by decide +kernel
theorem kb_31 : (Int8.ofInt 31).toInt32 = nI 31 := by decide +kernel
theorem kb_32 : (Int8.ofInt 32).toInt32 = nI 32 := by decide +kernel
theorem kb_35 : (Int8.ofInt 35).toInt32 = nI 35 := by decide +kernel
theorem kb_37 : (Int8.ofInt 37).toInt32 = nI 37 := by decide +kernel
theorem kb_40 : (Int8.ofInt 40).toInt32 = nI 40 := by decide +kernel
theorem kb_42 : (Int8.ofInt 42).toInt32 = nI 42 := by decide +kernel
theorem kb_43 : (Int8.ofInt 43).toInt32 = nI 43 := by decide +kernel
theorem kb_45 : (Int8.ofInt 45).toInt32 = nI 45 := by decide +kernel
theorem kb_47 : (Int8.ofInt 47).toInt32 = nI 47 := by decide +kernel
theorem kb_48 : (Int8.ofInt 48).toInt32 = nI 48 := by decide +kernel
theorem kb_57 : (Int8.ofInt 57).toInt32 = nI 57 := by decide +kernel
theorem kb_59 : (Int8.ofInt 59).toInt32 = nI 59 := by decide +kernel
theorem kb_60 : (Int8.ofInt 60).toInt32 = nI 60 := by decide +kernel
theorem kb_61 : (Int8.ofInt 61).toInt32 = nI 61 := by decide +kernel
theorem kb_62 : (Int8.ofInt 62).toInt32 = nI 62 := by decide +kernel
theorem kb_63 : (Int8.ofInt 63).toInt32 = nI 63 := by decide +kernel
theorem kb_72 : (Int8.ofInt 72).toInt32 = nI 72 := by decide +kernel
theorem kb_91 : (Int8.ofInt 91).toInt32 = nI 91 := by decide +kernel
theorem kb_93 : (Int8.ofInt 93).toInt32 = nI 93 := by decide +kernel
theorem kb_97 : (Int8.ofInt 97).toInt32 = nI 97 := by decide +kernel
theorem kb_99 : (Int8.ofInt 99).toInt32 = nI 99 := by decide +kernel
theorem kb_122 : (Int8.ofInt 122).toInt32 = nI 122 := by decide +kernel
theorem ks_255 : (Int16.ofInt 255).toInt32 = nI 255 := by decide +kernel
theorem ks_256 : (Int16.ofInt 256).toInt32 = nI 256 := by decide +kernel
theorem ks_299 : (Int16.ofInt 299).toInt32 = nI 299 := by decide +kernel
theorem ks_300 : (Int16.ofInt 300).toInt32 = nI 300 := by decide +kernel
theorem ks_399 : (Int16.ofInt 399).toInt32 = nI 399 := by decide +kernel
theorem ks_400 : (Int16.ofInt 400).toInt32 = nI 400 := by decide +kernel
theorem ks_402 : (Int16.ofInt 402).toInt32 = nI 402 := by decide +kernel
theorem ks_700 : (Int16.ofInt 700).toInt32 = nI 700 := by decide +kernel
theorem ks_900 : (Int16.ofInt 900).toInt32 = nI 900 := by decide +kernel
theorem ks_999 : (Int16.ofInt 999).toInt32 = nI 999 := by decide +kernel
theorem ks_1000 : (Int16.ofInt 1000).toInt32 = nI 1000 := by decide +kernel
theorem ks_1800 : (Int16.ofInt 1800).toInt32 = nI 1800 := by decide +kernel
theorem ks_4500 : (Int16.ofInt 4500).toInt32 = nI 4500 := by decide +kernel
