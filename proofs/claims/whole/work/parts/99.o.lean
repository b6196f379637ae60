/-! ===== the law's own judgement ===== -/
def lC (K : xG) (p : Program) (s : State) (m : MethodId) (meth : Method) (c : Code) (b L : Nat) (xs : Nat → Int32) : Prop := p.tables.exec = Jvm.exec ∧ c.code = code ∧ meth.sig.returnType = ret ∧ c.maxLocals = 4 ∧ s.vm.findClass RL = some m.cls ∧ (∀ w ∈ xW, w.before #[Value.ref b] s = true) ∧ va_X b L xs s s.heap ∧ b < s.heap.size ∧ meth.locks = false ∧ va_K (xD K) vwCl (xTys K) s ∧ xSt K s s.heap ∧ xZs K s s.heap ∧ K.1 = s.heap.size
def lV (K : xG) (p : Program) (l : Launch) (e : Env) (s : State) (m : MethodId) (below : List Frame) (meth : Method) (c : Code) (b cells slots h : Nat) (G : xHp) (pc : Nat) (ls : List (Nat × Value)) (st : List Value) : Prop := ∀ (H : Heap) (locs : List Loc) (lc : Array Slot), xH K h G H → va_S (xA K) s.heap H locs → lv_has lc 4 ls → W p l e room_1 s m #[Value.ref b] below meth c H locs cells slots (lw_Z below #[Value.ref b] s) (F0 m pc lc st)
theorem LI.cx {G : xHp} {h x y : Nat} (hL : LI G h x y) : ∃ fs, G x = some (eO 11 fs) := by
  obtain ⟨lo, tp, tn, rs, c, im, hxy, ⟨ruf, ima, ru, hM, hE⟩, hR, hI, hJ⟩ := hL
  exact ⟨_, hM.1⟩
theorem lT_at {K : xG} {p : Program} {s t : State} {m : MethodId} {meth : Method} {c : Code} {b L h : Nat} {xs : Nat → Int32} {G : xHp} {H : Heap} {locs : List Loc} (C : lC K p s m meth c b L xs) (hH : xH K h G H) (hS : va_S (xA K) s.heap H locs) (ht : t.heap = H) (hW : s.WarmedH t.vm) : xT K h G t := by
  obtain ⟨-, -, -, -, -, -, -, -, -, hK, hs, hz, -⟩ := C
  exact ⟨by rw [ht]; exact hH, va_K.moved hW.alike hK, xSt_at hs hS ht hW, xZs_at hz hS ht hW⟩
theorem l_callB {K : xG} {N : xM} {p : Program} {s : State} {m : MethodId} {meth : Method} {c : Code} {b L idx d' mc ms n : Nat} {xs : Nat → Int32} (C : lC K p s m meth c b L xs) (hN : xMd N n) (hlink : Cond.methodLink RL idx N.1 ∈ xW) (hdd : d' ≤ 100) :
    CallB room_1 s #[Value.ref b] RL idx N.1 N.2.1 N.2.2.1 N.2.2.2 (Cond.code N.1 N.2.1 N.2.2.1 N.2.2.2 :: xW) (xR d' mc ms) mc ms n := by
  obtain ⟨k1, k2, k3, k4, k5, k6, -⟩ := C
  obtain ⟨h1, h2, h3, h4⟩ := hN
  refine callB_of n k6 (xGood N h1) rfl rfl rfl (k6 _ h2) (k6 _ hlink) h3 ⟨?_, ?_⟩
  · show d' + 1 ≤ 2048
    omega
  · show 8 + (N.2.2.1 + 11) + 64 * d' ≤ 84000
    omega
theorem ic_n {k : Nat} (hk : k < 6) : Int32.ofInt (k : Int) = nI k := by
  obtain q | q | q | q | q | q : k = 0 ∨ k = 1 ∨ k = 2 ∨ k = 3 ∨ k = 4 ∨ k = 5 := by omega
  all_goals (subst q; decide)
section LWR
variable {K : xG} {p : Program} {l : Launch} {e : Env} {s : State} {m : MethodId} {below : List Frame} {meth : Method} {c : Code} {b L cells slots h pc : Nat} {G : xHp} {xs : Nat → Int32} {ls ls' : List (Nat × Value)} {st : List Value}
theorem l_aload_n {kf : Fin 4} {x : Nat} (C : lC K p s m meth c b L xs) (hd : decode code pc = .ok (.aload_n kf, 1)) (j : Nat) (hl : ls[j]? = some ((kf : Nat), .ref x)) (k : lV K p l e s m below meth c b cells slots h G (pc + 1) ls (.ref x :: st)) : lV K p l e s m below meth c b cells slots h G pc ls st := fun H locs lc hH hS hl2 => lv_aload_n C.1 C.2.1 hd rfl (lv_at hl2 j hl) (k H locs lc hH hS hl2)
theorem l_iload_n {kf : Fin 4} {x : Int32} (C : lC K p s m meth c b L xs) (hd : decode code pc = .ok (.iload_n kf, 1)) (j : Nat) (hl : ls[j]? = some ((kf : Nat), .int x)) (k : lV K p l e s m below meth c b cells slots h G (pc + 1) ls (.int x :: st)) : lV K p l e s m below meth c b cells slots h G pc ls st := fun H locs lc hH hS hl2 => lv_iload_n C.1 C.2.1 hd rfl (lv_at hl2 j hl) (k H locs lc hH hS hl2)
theorem l_iconst {n : Int} {v : Int32} (C : lC K p s m meth c b L xs) (hd : decode code pc = .ok (.iconst n, 1)) (hv : Int32.ofInt n = v) (k : lV K p l e s m below meth c b cells slots h G (pc + 1) ls (.int v :: st)) : lV K p l e s m below meth c b cells slots h G pc ls st := fun H locs lc hH hS hl2 => lv_iconst C.1 C.2.1 hd hv (k H locs lc hH hS hl2)
theorem l_bipush {n : Int} {v : Int32} (C : lC K p s m meth c b L xs) (hd : decode code pc = .ok (.bipush n, 2)) (hv : (Int8.ofInt n).toInt32 = v) (k : lV K p l e s m below meth c b cells slots h G (pc + 2) ls (.int v :: st)) : lV K p l e s m below meth c b cells slots h G pc ls st := fun H locs lc hH hS hl2 => lv_bipush C.1 C.2.1 hd hv (k H locs lc hH hS hl2)
theorem l_iadd {v w : Int32} (C : lC K p s m meth c b L xs) (hd : decode code pc = .ok (.iadd, 1)) (k : lV K p l e s m below meth c b cells slots h G (pc + 1) ls (.int (v + w) :: st)) : lV K p l e s m below meth c b cells slots h G pc ls (.int w :: .int v :: st) := fun H locs lc hH hS hl2 => lv_iadd C.1 C.2.1 hd (k H locs lc hH hS hl2)
theorem l_isub {v w : Int32} (C : lC K p s m meth c b L xs) (hd : decode code pc = .ok (.isub, 1)) (k : lV K p l e s m below meth c b cells slots h G (pc + 1) ls (.int (v - w) :: st)) : lV K p l e s m below meth c b cells slots h G pc ls (.int w :: .int v :: st) := fun H locs lc hH hS hl2 => lv_isub C.1 C.2.1 hd (k H locs lc hH hS hl2)
theorem l_iand {v w : Int32} (C : lC K p s m meth c b L xs) (hd : decode code pc = .ok (.iand, 1)) (k : lV K p l e s m below meth c b cells slots h G (pc + 1) ls (.int (v &&& w) :: st)) : lV K p l e s m below meth c b cells slots h G pc ls (.int w :: .int v :: st) := fun H locs lc hH hS hl2 => lv_iand C.1 C.2.1 hd (k H locs lc hH hS hl2)
theorem l_dup {v : Value} (C : lC K p s m meth c b L xs) (hd : decode code pc = .ok (.dup, 1)) (hv : v.category = 1) (k : lV K p l e s m below meth c b cells slots h G (pc + 1) ls (v :: v :: st)) : lV K p l e s m below meth c b cells slots h G pc ls (v :: st) := fun H locs lc hH hS hl2 => lv_dup C.1 C.2.1 hd hv (k H locs lc hH hS hl2)
theorem l_astore_n {kf : Fin 4} {x : Nat} (C : lC K p s m meth c b L xs) (hd : decode code pc = .ok (.astore_n kf, 1)) (hl : ((kf : Nat), Value.ref x) :: ls.filter (fun q => !(q.1 == (kf : Nat)) && !(q.1 + 1 == (kf : Nat) && q.2.category == 2)) = ls') (k : lV K p l e s m below meth c b cells slots h G (pc + 1) ls' st) : lV K p l e s m below meth c b cells slots h G pc ls (.ref x :: st) := fun H locs lc hH hS hl2 => lv_astore_n C.1 C.2.1 hd rfl hl2 kf.isLt hl (fun lc hL => k H locs lc hH hS hL)
theorem l_istore_n {kf : Fin 4} {v : Int32} (C : lC K p s m meth c b L xs) (hd : decode code pc = .ok (.istore_n kf, 1)) (hl : ((kf : Nat), Value.int v) :: ls.filter (fun q => !(q.1 == (kf : Nat)) && !(q.1 + 1 == (kf : Nat) && q.2.category == 2)) = ls') (k : lV K p l e s m below meth c b cells slots h G (pc + 1) ls' st) : lV K p l e s m below meth c b cells slots h G pc ls (.int v :: st) := fun H locs lc hH hS hl2 => lv_istore_n C.1 C.2.1 hd rfl hl2 kf.isLt hl (fun lc hL => k H locs lc hH hS hL)
theorem l_iinc {q : Nat} {n : Int} {v w : Int32} (C : lC K p s m meth c b L xs) (hd : decode code pc = .ok (.iinc q n, 3)) (j : Nat) (hj : ls[j]? = some (q, .int v)) (hv : v + Int32.ofInt n = w) (hn : q < 4) (hl : (q, Value.int w) :: ls.filter (fun z => !(z.1 == q) && !(z.1 + 1 == q && z.2.category == 2)) = ls') (k : lV K p l e s m below meth c b cells slots h G (pc + 3) ls' st) : lV K p l e s m below meth c b cells slots h G pc ls st := fun H locs lc hH hS hl2 => lv_iinc C.1 C.2.1 hd hl2 (k := j) hj hv hn hl (fun lc hL => k H locs lc hH hS hL)
theorem l_goto {off : Int} {tgt : Nat} (C : lC K p s m meth c b L xs) (hd : decode code pc = .ok (.goto off, 3)) (ht : (pc : Int) + off = (tgt : Int)) (k : lV K p l e s m below meth c b cells slots h G tgt ls st) : lV K p l e s m below meth c b cells slots h G pc ls st := fun H locs lc hH hS hl2 => lv_goto C.1 C.2.1 hd ht (k H locs lc hH hS hl2)
theorem l_icmp_eq {v w : Int32} {off : Int} {tgt : Nat} (C : lC K p s m meth c b L xs) (hd : decode code pc = .ok (.if_icmp .eq off, 3)) (ht : (pc : Int) + off = (tgt : Int)) (kt : v = w → lV K p l e s m below meth c b cells slots h G tgt ls st) (kf : ¬ v = w → lV K p l e s m below meth c b cells slots h G (pc + 3) ls st) : lV K p l e s m below meth c b cells slots h G pc ls (.int w :: .int v :: st) := fun H locs lc hH hS hl2 => lv_icmp_eq C.1 C.2.1 hd ht (fun z => kt z H locs lc hH hS hl2) (fun z => kf z H locs lc hH hS hl2)
theorem l_icmp_gt {v w : Int32} {off : Int} {tgt : Nat} (C : lC K p s m meth c b L xs) (hd : decode code pc = .ok (.if_icmp .gt off, 3)) (ht : (pc : Int) + off = (tgt : Int)) (kt : w < v → lV K p l e s m below meth c b cells slots h G tgt ls st) (kf : ¬ w < v → lV K p l e s m below meth c b cells slots h G (pc + 3) ls st) : lV K p l e s m below meth c b cells slots h G pc ls (.int w :: .int v :: st) := fun H locs lc hH hS hl2 => lv_icmp_gt C.1 C.2.1 hd ht (fun z => kt z H locs lc hH hS hl2) (fun z => kf z H locs lc hH hS hl2)
theorem l_tableIn {df lo hi : Int} {offs : Array Int} {len : Nat} {v : Int32} {off : Int} {tgt : Nat} (C : lC K p s m meth c b L xs) (hd : decode code pc = .ok (.tableswitch df lo hi offs, len)) (h3 : ¬ v.toInt < lo) (h4 : ¬ hi < v.toInt) (ho : offs[(v.toInt - lo).toNat]? = some off) (ht : (pc : Int) + off = (tgt : Int)) (k : lV K p l e s m below meth c b cells slots h G tgt ls st) : lV K p l e s m below meth c b cells slots h G pc ls (.int v :: st) := fun H locs lc hH hS hl2 => lv_tableIn C.1 C.2.1 hd h3 h4 ho ht (k H locs lc hH hS hl2)
theorem l_no (C : lC K p s m meth c b L xs) : ¬ xA K b := by
  obtain ⟨-, -, -, -, -, -, -, hb, -, -, -, -, h1⟩ := C
  show ¬ K.1 ≤ b
  omega
theorem l_slen (C : lC K p s m meth c b L xs) (hd : decode code pc = .ok (.arraylength, 1)) (k : lV K p l e s m below meth c b cells slots h G (pc + 1) ls (.int (nI L) :: st)) : lV K p l e s m below meth c b cells slots h G pc ls (.ref b :: st) := fun H locs lc hH hS hl2 => va_slen C.1 C.2.1 C.2.2.2.2.2.2.1 C.2.2.2.2.2.2.2.1 (l_no C) hS hd (k H locs lc hH hS hl2)
theorem l_sld {v : Int32} (C : lC K p s m meth c b L xs) (hv : vp_in v L) (hd : decode code pc = .ok (.iaload, 1)) (k : lV K p l e s m below meth c b cells slots h G (pc + 1) ls (.int (xs v.toNatClampNeg) :: st)) : lV K p l e s m below meth c b cells slots h G pc ls (.int v :: .ref b :: st) := fun H locs lc hH hS hl2 => va_sld C.1 C.2.1 C.2.2.2.2.2.2.1 C.2.2.2.2.2.2.2.1 (l_no C) hS hv hd (k H locs lc hH hS hl2)
theorem l_ld {x y i k : Nat} (C : lC K p s m meth c b L xs) (hL : L ≤ 3072) (hi : i + 6 ≤ L) (hk : k < 6) (d1 : decode code pc = .ok (.aload_n 0, 1)) (d2 : decode code (pc + 1) = .ok (.iload_n 3, 1)) (d3 : decode code (pc + 2) = .ok (.iconst (k : Int), 1)) (d4 : decode code (pc + 3) = .ok (.iadd, 1)) (d5 : decode code (pc + 4) = .ok (.iaload, 1)) (kk : lV K p l e s m below meth c b cells slots h G (pc + 5) [(3, .int (nI i)), (2, .ref y), (1, .ref x), (0, .ref b)] (.int (xs (i + k)) :: st)) : lV K p l e s m below meth c b cells slots h G pc [(3, .int (nI i)), (2, .ref y), (1, .ref x), (0, .ref b)] st := by
  refine l_aload_n C d1 3 rfl ?_
  refine l_iload_n C d2 0 rfl ?_
  refine l_iconst (v := nI k) C d3 (ic_n hk) ?_
  refine l_iadd C d4 ?_
  rw [nI_add]
  refine l_sld C (vp_in_nI (by omega) (by omega)) d5 ?_
  rw [nI_clamp (by omega)]
  exact kk
theorem l_run {a : Array Value} {mc ms : Nat} {Q' : xPost} {st0 : List Value} (C : lC K p s m meth c b L xs) {H : Heap} {locs : List Loc} {lc : Array Slot} (hS : va_S (xA K) s.heap H locs) (hL : lv_has lc 4 ls)
    (hr : va_Run p l e room_1 s m #[Value.ref b] below meth c H locs cells slots mc ms (F0 m pc lc st0) st (xQ K Q' a) (xA K))
    (kk : ∀ v h' G', Q' v h' G' → lV K p l e s m below meth c b (cells + mc) (slots + ms) h' G' (pc + 3) ls (v.toList ++ st)) : W p l e room_1 s m #[Value.ref b] below meth c H locs cells slots (lw_Z below #[Value.ref b] s) (F0 m pc lc st0) := by
  intro T hT X
  obtain ⟨v, st₀, t, T', L', h0, X', hL', e1, e2, ⟨⟨v', h', G', hv, hq, hT'⟩, hz, hk⟩, stp⟩ := hr T hT X
  cases hv
  rw [h0] at hz hk
  have hS' : va_S (xA K) s.heap T'.heap (locs ++ L') := by
    refine ⟨Nat.le_trans hS.1 (by rw [e1]; exact hz), fun q g1 g2 => ?_, fun q hq' => ?_⟩
    · rw [e1, hk q (Nat.lt_of_lt_of_le g1 hS.1) g2]
      exact hS.2.1 q g1 g2
    · rcases List.mem_append.mp hq' with g | g
      · exact hS.2.2 q g
      · exact hL' q g
  obtain ⟨t2, a1, b1⟩ := kk v h' G' hq T'.heap (locs ++ L') lc (by rw [e1]; exact hT'.1) hS' hL T' rfl X'
  exact ⟨t2, stp t2 a1, b1⟩
theorem l_callV {N : xM} {idx n a ci d' mc ms : Nat} {fs As : List Value} {q : vw_C} {Q' : xPost} (C : lC K p s m meth c b L xs) (hd : decode code pc = .ok (.invokevirtual idx, 3)) (hN : xMv N n) (hlink : Cond.methodLink RL idx N.1 ∈ xW) (hci : vwCl[ci]? = some q) (hq : q.1 = N.1.cls) (hc : G a = some (eO ci fs)) (hn : As.length = n) (hdd : d' ≤ 100) (hw : (st.map fun v => v.category).sum ≤ 8) (hww : True) (hmc : cells + mc ≤ 600000) (hms : slots + ms ≤ 7302250) (hM : xCall K N d' mc ms (.ref a :: As) h G Q')
    {st0 : List Value} (hst : As.reverse ++ .ref a :: st = st0) (kk : ∀ v h' G', Q' v h' G' → lV K p l e s m below meth c b (cells + mc) (slots + ms) h' G' (pc + 3) ls (v.toList ++ st)) : lV K p l e s m below meth c b cells slots h G pc ls st0 := by
  intro H locs lc hH hS hL
  obtain ⟨k1, k2, k3, k4, k5, k6, k7, k8, k9, k10, k11, k12, k13⟩ := id C
  subst hst
  refine l_run C hS hL (va_runV (As := As) (rest := st) (b := a) (C := q.1) ⟨k1, k2, k4, k5, k6⟩ (hM l) ⟨l_callB C hN.1 hlink hdd, k6 _ hN.2.1, ?_⟩ ⟨xT_blind, ?_, fun U hU hW => ⟨rfl, lT_at C hH hS hU hW⟩⟩ rfl hn hL.1 rfl (lv_room hw) hd ⟨hmc, hms⟩) kk
  · rw [hq]; exact k6 _ hN.2.2
  · exact va_recv (q0 := 0) (ws := [(a, .inr (ci, fs))]) k10 (xP1 (hH.2.2 a _ hc).2) hci rfl
theorem l_callI {N : xM} {idx n a d' mc ms : Nat} {As : List Value} {Q' : xPost} (C : lC K p s m meth c b L xs) (hd : decode code pc = .ok (.invokespecial idx, 3)) (hN : xMi N n) (hlink : Cond.methodLink RL idx N.1 ∈ xW) (hn : As.length = n) (hdd : d' ≤ 100) (hw : (st.map fun v => v.category).sum ≤ 8) (hmc : cells + mc ≤ 600000) (hms : slots + ms ≤ 7302250) (hM : xCall K N d' mc ms (.ref a :: As) h G Q')
    {st0 : List Value} (hst : As.reverse ++ .ref a :: st = st0) (kk : ∀ v h' G', Q' v h' G' → lV K p l e s m below meth c b (cells + mc) (slots + ms) h' G' (pc + 3) ls (v.toList ++ st)) : lV K p l e s m below meth c b cells slots h G pc ls st0 := by
  intro H locs lc hH hS hL
  obtain ⟨k1, k2, k3, k4, k5, k6, k7, k8, k9, k10, k11, k12, k13⟩ := id C
  subst hst
  obtain ⟨n1, n2, n3, n4⟩ := hN
  have hB := l_callB (d' := d') (mc := mc) (ms := ms) C n1 hlink hdd
  rw [n4] at hB
  have hM' := hM l
  rw [n4] at hM'
  exact l_run C hS hL (va_runI (As := As) (rest := st) (b := a) ⟨k1, k2, k4, k5, k6⟩ hM' ⟨hB, n3, k6 _ n2⟩ ⟨xT_blind, fun U hU hW => ⟨rfl, lT_at C hH hS hU hW⟩⟩ rfl hn hL.1 rfl (lv_room hw) hd ⟨hmc, hms⟩) kk
theorem l_new {idx ci N0 : Nat} {CN : String} {T : u_T} {ty : Nat → FieldType} {fs : List Value} (C : lC K p s m meth c b L xs) (hd : decode code pc = .ok (.new idx, 3)) (hcl : xCls ci CN T N0 ty) (hl : Cond.classLink RL idx CN ∈ xW) (hi : Cond.instantiable CN N0 ∈ xW) (hn : Cond.initialized CN ∈ xW) (hfs : ∀ j, j < N0 → defaultValue (ty j) = vp_V fs j) (hmc : cells + 1 ≤ 600000) (hms : slots + N0 ≤ 7302250) (k : lV K p l e s m below meth c b (cells + 1) (slots + N0) (h + 1) (xup G h (eO ci fs)) (pc + 3) ls (.ref h :: st)) : lV K p l e s m below meth c b cells slots h G pc ls st := by
  intro H locs lc hH hS hL
  obtain ⟨k1, k2, k3, k4, k5, k6, k7, k8, k9, k10, k11, k12, k13⟩ := id C
  have hKn := k10.1 ci _ hcl.1
  refine W.newcK k1 k2 k5 (k6 _ hl) (k6 _ hi) (k6 _ hn) rfl hd hmc hms hKn.2.1 hH.1 fun H1 kC hkC e1 z1 o1 => ?_
  have he : va_at (xD K) vwCl (h, xcv K (eO ci fs)) H1 := ⟨_, hcl.1, (u_born ty k6 hcl.2.1 hKn hkC e1 hcl.2.2.1).to hfs⟩
  exact k H1 locs lc (xH_push hH he z1 o1) ⟨Nat.le_trans hS.1 (by rw [z1, hH.1]; omega), fun q g1 g2 => (o1 q (by have := hS.1; rw [hH.1] at this; omega)).trans (hS.2.1 q g1 g2), hS.2.2⟩ hL
theorem l_ret (C : lC K p s m meth c b L xs) (hd : decode code pc = .ok (.ireturn, 1)) (hc : cells ≤ 600000) (hs : slots ≤ 7302250) : lV K p l e s m below meth c b cells slots h G pc ls [.int 1] := by
  intro H locs lc hH hS hL
  obtain ⟨k1, k2, k3, k4, k5, k6, k7, k8, k9, k10, k11, k12, k13⟩ := id C
  refine va_forget (fun q hq => by have z := hS.2.2 q hq; rw [← k13]; exact z) ?_
  refine W.widen (k := 600000) (n := 7302250) hc hs ?_
  exact lw_ret k1 k2 k3 k9 hd
end LWR
