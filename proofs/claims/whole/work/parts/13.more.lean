/-! ===== System.arraycopy, String constants ===== -/
section XD
variable {K : xG} {M N : xM} {d d' cb sb mc ms h : Nat} {G : xHp} {pc : Nat} {ls ls' : List (Nat × Value)} {st : List Value} {Q Q' : xPost}
theorem x_copy {idx a0 a n0 n1 : Nat} {f g : Nat → Int32} {sp dp n : Int32} (hd : decode M.2.1 pc = .ok (.invokestatic idx, 3)) (hlink : Cond.methodLink M.1.cls idx arraycopyName ∈ xW) (hnat : Cond.native arraycopyName ∈ xW) (hstat : Cond.static arraycopyName ∈ xW) (hini : Cond.initialized "java/lang/System" ∈ xW) (hc0 : G a0 = some (eI 0 n0 f)) (hc1 : G a = some (eI 0 n1 g)) (g1 : ¬ sp < 0) (g2 : ¬ dp < 0) (g3 : ¬ n < 0) (g4 : sp.toNatClampNeg + n.toNatClampNeg ≤ n0) (g5 : dp.toNatClampNeg + n.toNatClampNeg ≤ n1) (hdd : 1 ≤ d) (hw : (st.map fun v => v.category).sum ≤ 8)
    (k : xV K M d cb sb h (xup G a (eI 0 n1 (va_cpy f g sp.toNatClampNeg dp.toNatClampNeg n.toNatClampNeg))) (pc + 3) ls st Q) : xV K M d cb sb h G pc ls (.int n :: .int dp :: .ref a :: .int sp :: .ref a0 :: st) Q := by
  intro p l e s m args below meth c H locs cells slots lc MC MS C hH hS hL h1 h2
  obtain ⟨k1, k2, k3, k4, k5, k6, k7, k8, k9, k10, k11, k12⟩ := id C
  have nn : ∀ z : Int32, ¬ z < 0 → z.toInt = (z.toNatClampNeg : Int) := by
    intro z hz
    have hz0 : (0 : Int) ≤ z.toInt := by
      have := Int32.not_lt.mp hz
      simpa using Int32.le_iff_toInt_le.mp this
    show z.toInt = ((z.toInt.toNat : Nat) : Int)
    omega
  intro T hT X
  have q0 : H[a0]? = some (vp_cell (K.2.2.2.1 0) (n0, .inl f)) := (hH.2.2 a0 _ hc0).2
  have q1 : H[a]? = some (vp_cell (K.2.2.2.1 0) (n1, .inl g)) := (hH.2.2 a _ hc1).2
  obtain ⟨-, j0, hj0, cm0, hjk0⟩ := (k9.2 0 _ rfl).1 n0 (fun j => .int (f j))
  obtain ⟨-, j1, hj1, cm1, hjk1⟩ := (k9.2 0 _ rfl).1 n1 (fun j => .int (g j))
  obtain ⟨vm', X', step⟩ := X.arraycopy k1 k5 (k6 _ hlink) (k6 _ hnat) (k6 _ hstat) (k6 _ hini) (src := a0) (dst := a) (cs := vp_cell (K.2.2.2.1 0) (n0, .inl f)) (cd := vp_cell (K.2.2.2.1 0) (n1, .inl g)) (srcPos := sp) (destPos := dp) (n := n) (by rw [hT]; exact q0) (by rw [hT]; exact q1)
    (fun _ h => by cases h) (fun _ h => by cases h) (fun h => by cases h) (fun h => by cases h) hj0 hj1 hjk0 hjk1 (by simp [refKind]) g1 g2 g3
    (by rw [nn sp g1, nn n g3]; show ¬ _ > ((arrV (K.2.2.2.1 0) n0 (fun j => .int (f j))).slots.size : Int); rw [arrV_size]; omega)
    (by rw [nn dp g2, nn n g3]; show ¬ _ > ((arrV (K.2.2.2.1 0) n1 (fun j => .int (g j))).slots.size : Int); rw [arrV_size]; omega)
    (fun vm₁ _ i hi => by
      have e : (vp_cell (K.2.2.2.1 0) (n0, .inl f)).slots.getD (sp.toNatClampNeg + i) .null = .int (f (sp.toNatClampNeg + i)) := by
        show (arrV (K.2.2.2.1 0) n0 (fun j => .int (f j))).slots.getD _ _ = _
        rw [Array.getD_eq_getD_getElem?, arrV_read _ _ (by omega)]
        rfl
      refine ⟨?_, ?_⟩
      · rw [e]
        rfl
      · rw [e]
        exact trivial)
    (g := F0 m pc lc (.int n :: .int dp :: .ref a :: .int sp :: .ref a0 :: st)) rfl (by rw [k4]; exact hL.1) (rest := st) rfl (by rw [k2]; exact hd) hdd (by
      show 2 * 0 + _ + (nativeFrameWords "java/lang/System" "arraycopy" 5 + 11) ≤ 64 * d
      have h9 : nativeFrameWords "java/lang/System" "arraycopy" 5 ≤ 40 := by decide +kernel
      omega)
  have e1 : copied (vp_cell (K.2.2.2.1 0) (n0, .inl f)) (vp_cell (K.2.2.2.1 0) (n1, .inl g)) sp dp n = vp_cell (K.2.2.2.1 0) (n1, .inl (va_cpy f g sp.toNatClampNeg dp.toNatClampNeg n.toNatClampNeg)) := va_copied (fun z => .int z) (K.2.2.2.1 0) (K.2.2.2.1 0) f g g4
  rw [e1] at X' step
  have hl : a < H.size := (Array.getElem?_eq_some_iff.mp q1).1
  have hheap : ((T.setVm vm').setCell a (vp_cell (K.2.2.2.1 0) (n1, .inl (va_cpy f g sp.toNatClampNeg dp.toNatClampNeg n.toNatClampNeg)))).heap = H.setIfInBounds a (vp_cell (K.2.2.2.1 0) (n1, .inl (va_cpy f g sp.toNatClampNeg dp.toNatClampNeg n.toNatClampNeg))) := by rw [← hT]; rfl
  have oq : ∀ q : Nat, q ≠ a → (H.setIfInBounds a (vp_cell (K.2.2.2.1 0) (n1, .inl (va_cpy f g sp.toNatClampNeg dp.toNatClampNeg n.toNatClampNeg))))[q]? = H[q]? := fun q hq => by simp [Array.getElem?_setIfInBounds, Ne.symm hq]
  have hKa := (hH.2.2 a _ hc1).1
  have hat' : va_at (xD K) vwCl (a, xcv K (eI 0 n1 (va_cpy f g sp.toNatClampNeg dp.toNatClampNeg n.toNatClampNeg))) (H.setIfInBounds a (vp_cell (K.2.2.2.1 0) (n1, .inl (va_cpy f g sp.toNatClampNeg dp.toNatClampNeg n.toNatClampNeg)))) := by
    show (H.setIfInBounds a _)[a]? = some _
    simp [Array.getElem?_setIfInBounds, hl]
  obtain ⟨t, a1, b1⟩ := k p l e s m args below meth c _ _ cells slots lc MC MS C (xH_up hH hc1 hat' (by simp) oq) ⟨by simp; exact hS.1, fun q g1 g2 => by
      rw [oq q (fun e => g2 (by rw [e]; exact hKa))]
      exact hS.2.1 q g1 g2, fun q hq => by
      rcases List.mem_append.mp hq with h | h
      · exact hS.2.2 q h
      · obtain ⟨z, -, hz⟩ := List.mem_map.mp h
        rw [← hz]
        exact hKa⟩ hL h1 h2 _ hheap X'
  exact ⟨t, step t a1, b1⟩
theorem x_ldcw {idx : Nat} {v : Int32} (hd : decode M.2.1 pc = .ok (.ldc_w idx, 3)) (hc : Cond.constant M.1.cls idx v ∈ xW) (k : xV K M d cb sb h G (pc + 3) ls (.int v :: st) Q) : xV K M d cb sb h G pc ls st Q := by
  intro p l e s m args below meth c H locs cells slots lc MC MS C hH hS hL h1 h2
  exact lv_ldcw C.1 C.2.1 C.2.2.2.2.1 (C.2.2.2.2.2.1 _ hc) hd (k p l e s m args below meth c H locs cells slots lc MC MS C hH hS hL h1 h2)
theorem x_ldcwS {idx : Nat} (i : Nat) (hi : i < xs_n) (ho : xs_own i = M.1.cls) (hx : xs_idx i = idx) (hd : decode M.2.1 pc = .ok (.ldc_w idx, 3)) (k : xV K M d cb sb h G (pc + 3) ls (.ref (K.2.2.2.2.1 i) :: st) Q) : xV K M d cb sb h G pc ls st Q := by
  intro p l e s m args below meth c H locs cells slots lc MC MS C hH hS hL h1 h2
  subst hx
  have hz := (C.2.2.2.2.2.2.2.2.2.1 i hi).2.2.2.2
  rw [ho] at hz
  have hown := C.2.2.2.2.1
  have hexec := C.1
  have hb := C.2.1
  intro T hT X
  obtain ⟨t, a1, b1⟩ := k p l e s m args below meth c H locs cells slots lc MC MS C hH hS hL h1 h2 T hT X
  refine ⟨t, ?_, b1⟩
  obtain ⟨k0, cf, i0, a', hk, hcf, hcp, -, hr, hev'⟩ := Cond.stringRef_spec hown hz.1
  cases hz.2.symm.trans hev'
  obtain ⟨k', hk', he⟩ := X.warmed.alike.2.2 _ _ hk
  have hr' : k'.resolved[xs_idx i]? = some (some (.string (K.2.2.2.2.1 i))) := by
    rcases X.warmed.entry hk hk' (xs_idx i) with h | ⟨h, -⟩
    · rw [h]; exact hr
    · rw [hr] at h; cases h
  rw [← hb] at hd
  jvm_step X.here [hexec, hd, ldc_w.wp_string (e := e) (s := T) (f := F0 m pc lc st) X.here.top hk' (by rw [he]; exact hcf) hcp hr']
  exact a1
/-- getfield of a String constant -/
theorem x_sget_coder {idx : Nat} (i : Nat) (hi : i < xs_n) (hd : decode M.2.1 pc = .ok (.getfield idx, 3)) (hlink : Cond.fieldLink M.1.cls idx "java/lang/String" "coder" "B" ∈ xW) (k : xV K M d cb sb h G (pc + 3) ls (.int 0 :: st) Q) : xV K M d cb sb h G pc ls (.ref (K.2.2.2.2.1 i) :: st) Q := by
  intro p l e s m args below meth c H locs cells slots lc MC MS C hH hS hL h1 h2
  exact vk_getf C.1 C.2.1 (C.2.2.2.2.2.2.2.2.2.1 i hi).2.1 hS C.2.2.2.2.1 (C.2.2.2.2.2.1 _ hlink) (fun _ h9 => h9) hd (k p l e s m args below meth c H locs cells slots lc MC MS C hH hS hL h1 h2)
theorem x_sget_value {idx : Nat} (i : Nat) (hi : i < xs_n) (hd : decode M.2.1 pc = .ok (.getfield idx, 3)) (hlink : Cond.fieldLink M.1.cls idx "java/lang/String" "value" "[B" ∈ xW) (k : xV K M d cb sb h G (pc + 3) ls (.ref (K.2.2.2.2.2 i) :: st) Q) : xV K M d cb sb h G pc ls (.ref (K.2.2.2.2.1 i) :: st) Q := by
  intro p l e s m args below meth c H locs cells slots lc MC MS C hH hS hL h1 h2
  exact vk_getf C.1 C.2.1 (C.2.2.2.2.2.2.2.2.2.1 i hi).2.2.1 hS C.2.2.2.2.1 (C.2.2.2.2.2.1 _ hlink) (fun _ h9 => h9) hd (k p l e s m args below meth c H locs cells slots lc MC MS C hH hS hL h1 h2)
theorem x_gets {idx : Nat} (hd : decode M.2.1 pc = .ok (.getstatic idx, 3)) (hlink : Cond.fieldLink M.1.cls idx "java/lang/String" "COMPACT_STRINGS" "Z" ∈ xW) (k : xV K M d cb sb h G (pc + 3) ls (.int 1 :: st) Q) : xV K M d cb sb h G pc ls st Q := by
  intro p l e s m args below meth c H locs cells slots lc MC MS C hH hS hL h1 h2
  exact va_gets C.1 C.2.1 C.2.2.2.2.2.2.2.2.2.2.1.1 hS C.2.2.2.2.1 (C.2.2.2.2.2.1 _ hlink) (fun _ h9 => h9) hd (k p l e s m args below meth c H locs cells slots lc MC MS C hH hS hL h1 h2)
theorem x_getsF {idx : Nat} (hd : decode M.2.1 pc = .ok (.getstatic idx, 3)) (hlink : Cond.fieldLink M.1.cls idx "jdk/internal/util/Preconditions" "SIOOBE_FORMATTER" "Ljava/util/function/BiFunction;" ∈ xW) (k : ∀ v : Value, (v = .null ∨ ∃ t, v = .ref t) → xV K M d cb sb h G (pc + 3) ls (v :: st) Q) : xV K M d cb sb h G pc ls st Q := by
  intro p l e s m args below meth c H locs cells slots lc MC MS C hH hS hL h1 h2
  rcases C.2.2.2.2.2.2.2.2.2.2.1.2.1 with hz | ⟨t0, hz⟩
  · exact va_gets C.1 C.2.1 hz hS C.2.2.2.2.1 (C.2.2.2.2.2.1 _ hlink) (fun _ h9 => h9) hd (k .null (Or.inl rfl) p l e s m args below meth c H locs cells slots lc MC MS C hH hS hL h1 h2)
  · exact va_gets C.1 C.2.1 hz hS C.2.2.2.2.1 (C.2.2.2.2.2.1 _ hlink) (fun _ h9 => h9) hd (k (.ref t0) (Or.inr ⟨t0, rfl⟩) p l e s m args below meth c H locs cells slots lc MC MS C hH hS hL h1 h2)
theorem x_callIN {idx n a : Nat} {As : List Value} (hd : decode M.2.1 pc = .ok (.invokespecial idx, 3)) (hN : xMi N n) (hlink : (M.1.cls, idx, N.1) ∈ xNest) (hn : As.length = n) (hdd : d' + 1 ≤ d) (hw : (st.map fun v => v.category).sum ≤ 8) (hM : xCall K N d' mc ms (.ref a :: As) h G Q')
    {st0 : List Value} (hst : As.reverse ++ .ref a :: st = st0) (kk : ∀ v h' G', Q' v h' G' → xV K M d cb sb h' G' (pc + 3) ls (v.toList ++ st) Q) : xV K M d (mc + cb) (ms + sb) h G pc ls st0 Q := by
  intro p l e s m args below meth c H locs cells slots lc MC MS C hH hS hL h1 h2
  obtain ⟨k1, k2, k3, k4, k5, k6, k7, k8, k9, k10, k11, k12⟩ := id C
  subst hst
  obtain ⟨⟨n1, n2, n5, n6⟩, n7, n3, n4⟩ := hN
  have hM' := hM l
  have hg := xGood N n1
  rw [n4] at hM' hg n1
  have hB : va_CN (xR d MC MS) s args M.1.cls idx N.1 "MendHall" N.2.1 N.2.2.1 none (Cond.code N.1 N.2.1 N.2.2.1 none :: xW) (xR d' mc ms) mc ms n := by
    refine ⟨⟨rfl, rfl, hdd, ?_, pay_in k6 hg, List.mem_cons_self⟩, k6 _ n1, k6 _ n2, ⟨n5.1, n5.2.1⟩, fun sig h => ?_, va_Nw.use rfl (k11.2.2.1 _ hlink)⟩
    · show 8 + (N.2.2.1 + 11) + 64 * d' ≤ 64 * d
      omega
    · have h9 := n5.2.2
      rw [h] at h9
      exact (Option.some.inj h9).symm
  exact x_run C hS hL h1 h2 (va_runIN (As := As) (rest := st) (b := a) ⟨k1, k2, k4, k5, k6⟩ hM' ⟨hB, n3, k6 _ n7⟩ ⟨xT_blind, fun U hU hW => ⟨rfl, xT_at C hH hS hU hW⟩⟩ rfl hn hL.1 rfl (lv_room hw) hd ⟨by show cells + mc ≤ MC; omega, by show slots + ms ≤ MS; omega⟩) kk
theorem x_salen (i : Nat) (hi : i < xs_n) (hd : decode M.2.1 pc = .ok (.arraylength, 1)) (k : xV K M d cb sb h G (pc + 1) ls (.int (nI (xs_byt i).length) :: st) Q) : xV K M d cb sb h G pc ls (.ref (K.2.2.2.2.2 i) :: st) Q := by
  intro p l e s m args below meth c H locs cells slots lc MC MS C hH hS hL h1 h2
  obtain ⟨cell, g1, g2, g3, g4, g5, g6, g7⟩ := ((C.2.2.2.2.2.2.2.2.2.1 i hi).2.2.2.1).kept hS.2.1
  exact W.alen C.1 C.2.1 g1 g2 g5 rfl rfl hd (k p l e s m args below meth c H locs cells slots lc MC MS C hH hS hL h1 h2)
theorem x_sbald (i : Nat) (hi : i < xs_n) {j : Nat} (hj : j < (xs_byt i).length) (hj2 : j < 2 ^ 31) (hd : decode M.2.1 pc = .ok (.baload, 1)) (k : xV K M d cb sb h G (pc + 1) ls (.int ((xs_byt i).getD j 0) :: st) Q) : xV K M d cb sb h G pc ls (.int (nI j) :: .ref (K.2.2.2.2.2 i) :: st) Q := by
  intro p l e s m args below meth c H locs cells slots lc MC MS C hH hS hL h1 h2
  obtain ⟨cell, g1, g2, g3, g4, g5, g6, g7⟩ := ((C.2.2.2.2.2.2.2.2.2.1 i hi).2.2.2.1).kept hS.2.1
  exact W.bald (v := .int ((xs_byt i).getD j 0)) C.1 C.2.1 g1 g2 g3 (by rw [nI_clamp hj2]; intro h; rcases h with h | h; exact nI_pos hj2 h; omega) (by rw [nI_clamp hj2]; exact g6 j hj) rfl rfl hd (k p l e s m args below meth c H locs cells slots lc MC MS C hH hS hL h1 h2)
theorem x_callVS {idx n i : Nat} {As : List Value} (hi : i < xs_n) (hd : decode M.2.1 pc = .ok (.invokevirtual idx, 3)) (hN : xMv N n) (hNs : N.1.cls = "java/lang/String") (hlink : Cond.methodLink M.1.cls idx N.1 ∈ xW) (hn : As.length = n) (hdd : d' + 1 ≤ d) (hw : (st.map fun v => v.category).sum ≤ 8) (hM : xCall K N d' mc ms (.ref (K.2.2.2.2.1 i) :: As) h G Q')
    {st0 : List Value} (hst : As.reverse ++ .ref (K.2.2.2.2.1 i) :: st = st0) (kk : ∀ v h' G', Q' v h' G' → xV K M d cb sb h' G' (pc + 3) ls (v.toList ++ st) Q) : xV K M d (mc + cb) (ms + sb) h G pc ls st0 Q := by
  intro p l e s m args below meth c H locs cells slots lc MC MS C hH hS hL h1 h2
  obtain ⟨k1, k2, k3, k4, k5, k6, k7, k8, k9, k10, k11, k12⟩ := id C
  subst hst
  refine x_run C hS hL h1 h2 (va_runV (As := As) (rest := st) (b := K.2.2.2.2.1 i) (C := N.1.cls) ⟨k1, k2, k4, k5, k6⟩ (hM l) ⟨x_callB C hN.1 hlink hdd, k6 _ hN.2.1, k6 _ hN.2.2⟩ ⟨xT_blind, ?_, fun U hU hW => ⟨rfl, xT_at C hH hS hU hW⟩⟩ rfl hn hL.1 rfl (lv_room hw) hd ⟨by show cells + mc ≤ MC; omega, by show slots + ms ≤ MS; omega⟩) kk
  obtain ⟨cell, g1, g2, g3, -⟩ := ((k10 i hi).1).kept hS.2.1
  exact ⟨cell, g1, g2, by rw [hNs]; exact g3⟩
end XD
