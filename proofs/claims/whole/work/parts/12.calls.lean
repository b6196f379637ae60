/-! ===== new cells, calls, returns, the entry ===== -/
def xMd (N : xM) (n : Nat) : Prop := Cond.code N.1 N.2.1 N.2.2.1 N.2.2.2 ∈ xW ∧ Cond.initialized N.1.cls ∈ xW ∧ (N.1.cls ≠ "java/lang/invoke/MethodHandle" ∧ N.1.cls ≠ "java/lang/invoke/VarHandle" ∧ (parseMethodDescriptor N.1.desc).map (fun d => d.parameters.length) = some n) ∧ N.2.2.1 ≤ 45
def xMv (N : xM) (n : Nat) : Prop := xMd N n ∧ Cond.instanceMethod N.1 ∈ xW ∧ Cond.selects N.1.cls N.1 N.1 ∈ xW
def xMs (N : xM) (n : Nat) : Prop := xMd N n ∧ Cond.static N.1 ∈ xW
def xMi (N : xM) (n : Nat) : Prop := xMd N n ∧ Cond.instanceMethod N.1 ∈ xW ∧ N.1.name = "<init>" ∧ N.2.2.2 = none
theorem xGood (N : xM) (h : Cond.code N.1 N.2.1 N.2.2.1 N.2.2.2 ∈ xW) : GoodIn xW (Cond.code N.1 N.2.1 N.2.2.1 N.2.2.2 :: xW) := by
  intro w hw
  have hm : w ∈ xW := by
    rcases List.mem_cons.mp hw with e | e
    · rw [e]; exact h
    · exact e
  exact ⟨hm, good_of_word (List.mem_filter.mp hm).2⟩
theorem x_callB {p : Program} {K : xG} {M N : xM} {s : State} {m : MethodId} {args : Array Value} {meth : Method} {c : Code} {idx d d' mc ms MC MS n : Nat} (C : xC K M p s m args meth c) (hN : xMd N n) (hlink : Cond.methodLink M.1.cls idx N.1 ∈ xW) (hdd : d' + 1 ≤ d) :
    CallB (xR d MC MS) s args M.1.cls idx N.1 N.2.1 N.2.2.1 N.2.2.2 (Cond.code N.1 N.2.1 N.2.2.1 N.2.2.2 :: xW) (xR d' mc ms) mc ms n := by
  obtain ⟨k1, k2, k3, k4, k5, k6, k7, k8, k9, k10, k11, k12⟩ := C
  obtain ⟨h1, h2, h3, h4⟩ := hN
  refine callB_of n k6 (xGood N h1) rfl rfl rfl (k6 _ h2) (k6 _ hlink) h3 ⟨hdd, ?_⟩
  show 8 + (N.2.2.1 + 11) + 64 * d' ≤ 64 * d
  omega
section XC
variable {K : xG} {M N : xM} {d d' cb sb mc ms h : Nat} {G : xHp} {pc : Nat} {ls ls' : List (Nat × Value)} {st : List Value} {Q Q' : xPost}
theorem x_run {p : Program} {l : Launch} {e : Env} {s : State} {m : MethodId} {args : Array Value} {below : List Frame} {meth : Method} {c : Code} {H : Heap} {locs : List Loc} {cells slots : Nat} {lc : Array Slot} {MC MS : Nat} {st0 : List Value} {a : Array Value}
    (C : xC K M p s m args meth c) (hS : va_S (xA K) s.heap H locs) (hL : lv_has lc M.2.2.1 ls) (h1 : cells + (mc + cb) ≤ MC) (h2 : slots + (ms + sb) ≤ MS)
    (hr : va_Run p l e (xR d MC MS) s m args below meth c H locs cells slots mc ms (F0 m pc lc st0) st (xQ K Q' a) (xA K))
    (kk : ∀ v h' G', Q' v h' G' → xV K M d cb sb h' G' (pc + 3) ls (v.toList ++ st) Q) : W p l e (xR d MC MS) s m args below meth c H locs cells slots (MQ below (xQ K Q) args s MC MS (xA K)) (F0 m pc lc st0) := by
  intro T hT X
  obtain ⟨v, st₀, t, T', L, h0, X', hL', e1, e2, ⟨⟨v', h', G', hv, hq, hT'⟩, hz, hk⟩, stp⟩ := hr T hT X
  cases hv
  rw [h0] at hz hk
  have hS' : va_S (xA K) s.heap T'.heap (locs ++ L) := by
    refine ⟨Nat.le_trans hS.1 (by rw [e1]; exact hz), fun q g1 g2 => ?_, fun q hq' => ?_⟩
    · rw [e1, hk q (Nat.lt_of_lt_of_le g1 hS.1) g2]
      exact hS.2.1 q g1 g2
    · rcases List.mem_append.mp hq' with g | g
      · exact hS.2.2 q g
      · exact hL' q g
  obtain ⟨t2, a1, b1⟩ := kk v h' G' hq p l e s m args below meth c T'.heap (locs ++ L) (cells + mc) (slots + ms) lc MC MS C (by rw [e1]; exact hT'.1) hS' hL (by omega) (by omega) T' rfl X'
  exact ⟨t2, stp t2 a1, b1⟩
theorem x_callV {idx n a ci : Nat} {fs As : List Value} {q : vw_C} (hd : decode M.2.1 pc = .ok (.invokevirtual idx, 3)) (hN : xMv N n) (hlink : Cond.methodLink M.1.cls idx N.1 ∈ xW) (hci : vwCl[ci]? = some q) (hq : q.1 = N.1.cls) (hc : G a = some (eO ci fs)) (hn : As.length = n) (hdd : d' + 1 ≤ d) (hw : (st.map fun v => v.category).sum ≤ 8) (hM : xCall K N d' mc ms (.ref a :: As) h G Q')
    {st0 : List Value} (hst : As.reverse ++ .ref a :: st = st0) (kk : ∀ v h' G', Q' v h' G' → xV K M d cb sb h' G' (pc + 3) ls (v.toList ++ st) Q) : xV K M d (mc + cb) (ms + sb) h G pc ls st0 Q := by
  intro p l e s m args below meth c H locs cells slots lc MC MS C hH hS hL h1 h2
  obtain ⟨k1, k2, k3, k4, k5, k6, k7, k8, k9, k10, k11, k12⟩ := id C
  subst hst
  refine x_run C hS hL h1 h2 (va_runV (As := As) (rest := st) (b := a) (C := q.1) ⟨k1, k2, k4, k5, k6⟩ (hM l) ⟨x_callB C hN.1 hlink hdd, k6 _ hN.2.1, ?_⟩ ⟨xT_blind, ?_, fun U hU hW => ⟨rfl, xT_at C hH hS hU hW⟩⟩ rfl hn hL.1 rfl (lv_room hw) hd ⟨by show cells + mc ≤ MC; omega, by show slots + ms ≤ MS; omega⟩) kk
  · rw [hq]; exact k6 _ hN.2.2
  · exact va_recv (q0 := 0) (ws := [(a, .inr (ci, fs))]) k9 (xP1 (hH.2.2 a _ hc).2) hci rfl
theorem x_callS {idx n : Nat} {As : List Value} (hd : decode M.2.1 pc = .ok (.invokestatic idx, 3)) (hN : xMs N n) (hlink : Cond.methodLink M.1.cls idx N.1 ∈ xW) (hn : As.length = n) (hdd : d' + 1 ≤ d) (hw : (st.map fun v => v.category).sum ≤ 8) (hM : xCall K N d' mc ms As h G Q')
    {st0 : List Value} (hst : As.reverse ++ st = st0) (kk : ∀ v h' G', Q' v h' G' → xV K M d cb sb h' G' (pc + 3) ls (v.toList ++ st) Q) : xV K M d (mc + cb) (ms + sb) h G pc ls st0 Q := by
  intro p l e s m args below meth c H locs cells slots lc MC MS C hH hS hL h1 h2
  obtain ⟨k1, k2, k3, k4, k5, k6, k7, k8, k9, k10, k11, k12⟩ := id C
  subst hst
  exact x_run C hS hL h1 h2 (va_runS (As := As) (rest := st) ⟨k1, k2, k4, k5, k6⟩ (hM l) ⟨x_callB C hN.1 hlink hdd, k6 _ hN.2⟩ ⟨xT_blind, fun U hU hW => ⟨rfl, xT_at C hH hS hU hW⟩⟩ rfl hn hL.1 rfl (lv_room hw) hd ⟨by show cells + mc ≤ MC; omega, by show slots + ms ≤ MS; omega⟩) kk
theorem x_callI {idx n a : Nat} {As : List Value} (hd : decode M.2.1 pc = .ok (.invokespecial idx, 3)) (hN : xMi N n) (hlink : Cond.methodLink M.1.cls idx N.1 ∈ xW) (hn : As.length = n) (hdd : d' + 1 ≤ d) (hw : (st.map fun v => v.category).sum ≤ 8) (hM : xCall K N d' mc ms (.ref a :: As) h G Q')
    {st0 : List Value} (hst : As.reverse ++ .ref a :: st = st0) (kk : ∀ v h' G', Q' v h' G' → xV K M d cb sb h' G' (pc + 3) ls (v.toList ++ st) Q) : xV K M d (mc + cb) (ms + sb) h G pc ls st0 Q := by
  intro p l e s m args below meth c H locs cells slots lc MC MS C hH hS hL h1 h2
  obtain ⟨k1, k2, k3, k4, k5, k6, k7, k8, k9, k10, k11, k12⟩ := id C
  subst hst
  obtain ⟨n1, n2, n3, n4⟩ := hN
  have hB := x_callB (d := d) (d' := d') (mc := mc) (ms := ms) (MC := MC) (MS := MS) C n1 hlink hdd
  rw [n4] at hB
  have hM' := hM l
  rw [n4] at hM'
  exact x_run C hS hL h1 h2 (va_runI (As := As) (rest := st) (b := a) ⟨k1, k2, k4, k5, k6⟩ hM' ⟨hB, n3, k6 _ n2⟩ ⟨xT_blind, fun U hU hW => ⟨rfl, xT_at C hH hS hU hW⟩⟩ rfl hn hL.1 rfl (lv_room hw) hd ⟨by show cells + mc ≤ MC; omega, by show slots + ms ≤ MS; omega⟩) kk
theorem x_objInit {idx a : Nat} (hd : decode M.2.1 pc = .ok (.invokespecial idx, 3)) (hlink : Cond.methodLink M.1.cls idx Lib.objectInit ∈ xW) (hi : Cond.instanceMethod Lib.objectInit ∈ xW) (hcd : Cond.code Lib.objectInit ⟨#[0xb1]⟩ 1 none ∈ xW) (hdd : 1 ≤ d) (hw : (st.map fun v => v.category).sum ≤ 8) (k : xV K M d cb sb h G (pc + 3) ls st Q) : xV K M d cb sb h G pc ls (.ref a :: st) Q := by
  intro p l e s m args below meth c H locs cells slots lc MC MS C hH hS hL h1 h2
  obtain ⟨k1, k2, k3, k4, k5, k6, k7, k8, k9, k10, k11, k12⟩ := id C
  refine W.objInit k1 k2 k5 (k6 _ hlink) (k6 _ hi) (k6 _ hcd) rfl (by rw [k4]; exact hL.1) rfl hd hdd ?_ (k p l e s m args below meth c H locs cells slots lc MC MS C hH hS hL h1 h2)
  have h9 := lv_room (m := m) (pc := pc) (ls := lc) (rest := .ref a :: st) hw
  show 2 * _ + _ + 12 ≤ 64 * d
  omega
theorem x_new {idx ci N0 : Nat} {CN : String} {T : u_T} {ty : Nat → FieldType} {fs : List Value} (hd : decode M.2.1 pc = .ok (.new idx, 3)) (hcl : xCls ci CN T N0 ty) (hl : Cond.classLink M.1.cls idx CN ∈ xW) (hi : Cond.instantiable CN N0 ∈ xW) (hn : Cond.initialized CN ∈ xW) (hfs : ∀ j, j < N0 → defaultValue (ty j) = vp_V fs j) (k : xV K M d cb sb (h + 1) (xup G h (eO ci fs)) (pc + 3) ls (.ref h :: st) Q) : xV K M d (1 + cb) (N0 + sb) h G pc ls st Q := by
  intro p l e s m args below meth c H locs cells slots lc MC MS C hH hS hL h1 h2
  obtain ⟨k1, k2, k3, k4, k5, k6, k7, k8, k9, k10, k11, k12⟩ := id C
  have hKn := k9.1 ci _ hcl.1
  refine W.newcK k1 k2 k5 (k6 _ hl) (k6 _ hi) (k6 _ hn) rfl hd (by show cells + 1 ≤ MC; omega) (by show slots + N0 ≤ MS; omega) hKn.2.1 hH.1 fun H1 kC hkC e1 z1 o1 => ?_
  have he : va_at (xD K) vwCl (h, xcv K (eO ci fs)) H1 := ⟨_, hcl.1, (u_born ty k6 hcl.2.1 hKn hkC e1 hcl.2.2.1).to hfs⟩
  exact k p l e s m args below meth c H1 locs (cells + 1) (slots + N0) lc MC MS C (xH_push hH he z1 o1) ⟨Nat.le_trans hS.1 (by rw [z1, hH.1]; omega), fun q g1 g2 => (o1 q (by have := hS.1; rw [hH.1] at this; omega)).trans (hS.2.1 q g1 g2), hS.2.2⟩ hL (by omega) (by omega)
theorem x_newa {at0 : ArrayType} {t N0 : Nat} {ty : FieldType} {n : Int32} (hd : decode M.2.1 pc = .ok (.newarray at0, 2)) (hty : newarray.typeOf at0 = ty) (hw : Cond.arrayClass ty ∈ xW) (htt : ∀ K : xG, (xTys K)[t]? = some (K.2.2.2.1 t, ty)) (hra : ∀ (U : State) (c : ClassId), va_RA U c ty = (U.vm.findClass ("[" ++ ty.toString) = some c)) (hdv : defaultValue ty = .int 0) (hn : ¬ n < 0) (hN : n.toNatClampNeg = N0) (hb8 : N0 * componentBytes ty ≤ 536870912) (k : xV K M d cb sb (h + 1) (xup G h (eI t N0 (fun _ => 0))) (pc + 2) ls (.ref h :: st) Q) : xV K M d (1 + cb) (N0 + sb) h G pc ls (.int n :: st) Q := by
  intro p l e s m args below meth c H locs cells slots lc MC MS C hH hS hL h1 h2
  obtain ⟨k1, k2, k3, k4, k5, k6, k7, k8, k9, k10, k11, k12⟩ := id C
  subst hty
  refine va_newaK k1 k2 (k6 _ hw) rfl hd rfl hn hN hb8 (by show cells + 1 ≤ MC; omega) (by show slots + N0 ≤ MS; omega) hH.1 fun H1 cA e1 z1 o1 hAr hNm => ?_
  have hca : cA = K.2.2.2.1 t := by
    have h5 := (k9.2 t _ (htt K)).2
    rw [hra] at h5
    exact Option.some.inj (hNm.symm.trans h5)
  subst hca
  have he : va_at (xD K) vwCl (h, xcv K (eI t N0 (fun _ => 0))) H1 := by
    show H1[h]? = some (vp_cell _ _)
    rw [vp_cell_i, e1, hdv]
  exact k p l e s m args below meth c H1 locs (cells + 1) (slots + N0) lc MC MS C (xH_push hH he z1 o1) ⟨Nat.le_trans hS.1 (by rw [z1, hH.1]; omega), fun q g1 g2 => (o1 q (by have := hS.1; rw [hH.1] at this; omega)).trans (hS.2.1 q g1 g2), hS.2.2⟩ hL (by omega) (by omega)
theorem x_newaJ {at0 : ArrayType} {N0 : Nat} {n : Int32} (hd : decode M.2.1 pc = .ok (.newarray at0, 2)) (hty : newarray.typeOf at0 = .long) (hw : Cond.arrayClass .long ∈ xW) (hn : ¬ n < 0) (hN : n.toNatClampNeg = N0) (hb8 : N0 * componentBytes .long ≤ 536870912) (k : xV K M d cb sb (h + 1) (xup G h (eJ N0 (fun _ => 0))) (pc + 2) ls (.ref h :: st) Q) : xV K M d (1 + cb) (N0 + sb) h G pc ls (.int n :: st) Q := by
  intro p l e s m args below meth c H locs cells slots lc MC MS C hH hS hL h1 h2
  obtain ⟨k1, k2, k3, k4, k5, k6, k7, k8, k9, k10, k11, k12⟩ := id C
  refine va_newaK k1 k2 (by rw [hty]; exact k6 _ hw) rfl hd rfl hn hN (by rw [hty]; exact hb8) (by show cells + 1 ≤ MC; omega) (by show slots + N0 ≤ MS; omega) hH.1 fun H1 cA e1 z1 o1 hAr hNm => ?_
  rw [hty] at e1 hNm
  have hca : cA = K.2.2.2.1 3 := by
    have h5 : s.vm.findClass ("[" ++ FieldType.long.toString) = some (K.2.2.2.1 3) := (k9.2 3 _ rfl).2
    exact Option.some.inj (hNm.symm.trans h5)
  subst hca
  have he : va_at (xD K) vwCl (h, xcv K (eJ N0 (fun _ => 0))) H1 := by
    show H1[h]? = some (vp_cell _ _)
    rw [vp_cell_l, e1]
    rfl
  exact k p l e s m args below meth c H1 locs (cells + 1) (slots + N0) lc MC MS C (xH_push hH he z1 o1) ⟨Nat.le_trans hS.1 (by rw [z1, hH.1]; omega), fun q g1 g2 => (o1 q (by have := hS.1; rw [hH.1] at this; omega)).trans (hS.2.1 q g1 g2), hS.2.2⟩ hL (by omega) (by omega)
theorem x_anew {idx t N0 : Nat} {CN : String} {n : Int32} (hd : decode M.2.1 pc = .ok (.anewarray idx, 3)) (hl : Cond.classLink M.1.cls idx CN ∈ xW) (hcn : CN = RX8 ∨ CN = RX10) (htt : ∀ K : xG, (xTys K)[4 + t]? = some (K.2.2.2.1 (4 + t), .object CN)) (hn : ¬ n < 0) (hN : n.toNatClampNeg = N0) (hb8 : N0 * 4 ≤ 536870912) (k : xV K M d cb sb (h + 1) (xup G h (eQ t N0 (fun _ => none))) (pc + 3) ls (.ref h :: st) Q) : xV K M d (1 + cb) (N0 + sb) h G pc ls (.int n :: st) Q := by
  intro p l e s m args below meth c H locs cells slots lc MC MS C hH hS hL h1 h2
  obtain ⟨k1, k2, k3, k4, k5, k6, k7, k8, k9, k10, k11, k12⟩ := id C
  subst hN
  refine W.anew k1 k2 k5 (k6 _ hl) (va_AO.use (by rcases hcn with rfl | rfl; exact k11.2.2.2.1; exact k11.2.2.2.2)) rfl hd rfl hn hb8 (by show cells + 1 ≤ MC; omega) (by show slots + _ ≤ MS; omega) fun cA kA comp f1 f2 f3 f4 => ?_
  generalize hH1 : H.push ({ cls := cA, slots := Array.replicate n.toNatClampNeg .null, vm := .none } : Cell) = H1
  have z1 : H1.size = h + 1 := by rw [← hH1, Array.size_push, hH.1]
  have e1 : H1[h]? = some (arrV cA n.toNatClampNeg (fun _ => .null)) := by rw [← hH1, ← hH.1, Array.getElem?_push_size, ← arrV_new]
  have o1 : ∀ q : Nat, q < h → H1[q]? = H[q]? := fun q hq => by rw [← hH1, Array.getElem?_push, if_neg (by rw [hH.1]; omega)]
  have hca : cA = K.2.2.2.1 (4 + t) := by
    obtain ⟨kA', comp', g1, g2, g3, g4⟩ := (k9.2 (4 + t) _ (htt K)).2
    exact Option.some.inj (f1.symm.trans g4)
  subst hca
  have he : va_at (xD K) vwCl (h, xcv K (eQ t n.toNatClampNeg (fun _ => none))) H1 := by
    show H1[h]? = some (vp_cell _ _)
    rw [vp_cell_q]
    exact e1
  have hg : W p l e (xR d MC MS) s m args below meth c H1 locs (cells + 1) (slots + n.toNatClampNeg) (MQ below (xQ K Q) args s MC MS (xA K)) (F0 m (pc + 3) lc (.ref h :: st)) := k p l e s m args below meth c H1 locs (cells + 1) (slots + n.toNatClampNeg) lc MC MS C (xH_push hH he z1 o1) ⟨Nat.le_trans hS.1 (by rw [z1, hH.1]; omega), fun q g1 g2 => (o1 q (by have := hS.1; rw [hH.1] at this; omega)).trans (hS.2.1 q g1 g2), hS.2.2⟩ hL (by omega) (by omega)
  rw [← hH.1] at hg
  exact hg
theorem x_aast {t a n b ci : Nat} {f : Nat → Option Nat} {fs : List Value} {r : vw_C} {i : Int32} (hd : decode M.2.1 pc = .ok (.aastore, 1)) (hc : G a = some (eQ t n f)) (htt : ∀ K : xG, (xTys K)[4 + t]? = some (K.2.2.2.1 (4 + t), .object r.1)) (hcb : G b = some (eO ci fs)) (hci : vwCl[ci]? = some r) (hin : vp_in i n) (kk : xV K M d cb sb h (xup G a (eQ t n (va_up f i.toNatClampNeg (some b)))) (pc + 1) ls st Q) : xV K M d cb sb h G pc ls (.ref b :: .int i :: .ref a :: st) Q := by
  intro p l e s m args below meth c H locs cells slots lc MC MS C hH hS hL h1 h2
  obtain ⟨k1, k2, k3, k4, k5, k6, k7, k8, k9, k10, k11, k12⟩ := id C
  obtain ⟨hKa, hat⟩ := hH.2.2 a _ hc
  have hlt : i.toNatClampNeg < n := Nat.not_le.mp fun q => hin (Or.inr q)
  have h0 : ¬ i < 0 := fun q => hin (Or.inl q)
  obtain ⟨r', hr', cellV, g1, g2, g3, -⟩ := (hH.2.2 b _ hcb).2
  have hcls := (k9.1 ci r hci).2
  obtain ⟨kA, comp, j1, j2, j3, -⟩ := (k9.2 (4 + t) _ (htt K)).2
  have hcomp : comp = (xD K).1 ci := Option.some.inj (j3.symm.trans hcls.1)
  subst hcomp
  obtain ⟨kC, hkC, -⟩ := hcls.2
  refine W.aast k1 k2 hat (fun q h => by cases h) (fun h => by cases h) j1 j2 rfl hkC ⟨h0, by show _ < (arrV _ _ _).slots.size; rw [arrV_size]; exact hlt⟩ g1 (fun q h => by rw [g3] at h; cases h) (by rw [g2]; exact hkC) (by rw [g2]; exact va_assign hcls) rfl rfl hd fun H1 e1 z oq => ?_
  have hat' : va_at (xD K) vwCl (a, xcv K (eQ t n (va_up f i.toNatClampNeg (some b)))) H1 := by
    show H1[a]? = some (vp_cell _ _)
    rw [e1]
    rw [vp_cell_q, vp_cell_q, arrV_store]
    congr 2
    funext q
    by_cases hq : q = i.toNatClampNeg
    · subst hq
      simp [updV, va_up, va_rf]
    · simp [updV, va_up, hq]
  exact kk p l e s m args below meth c H1 _ cells slots lc MC MS C (xH_up hH hc hat' z oq) (hS.put z oq hKa) hL h1 h2
theorem x_iret {v : Int32} (hd : decode M.2.1 pc = .ok (.ireturn, 1)) (hr : M.2.2.2 = some .int) (hq : Q (some (.int v)) h G) : xV K M d cb sb h G pc ls [.int v] Q := by
  intro p l e s m args below meth c H locs cells slots lc MC MS C hH hS hL h1 h2
  obtain ⟨k1, k2, k3, k4, k5, k6, k7, k8, k9, k10, k11, k12⟩ := id C
  refine W.widen (k := MC) (n := MS) (by omega) (by omega) ?_
  exact W.iret k1 k2 (k3.trans hr) (fun t ht hW => ⟨⟨_, h, G, rfl, hq, xT_at C hH hS ht hW⟩, hS.F ht⟩) hS.2.2 hd k7
theorem x_zret {v : Int32} {ty : FieldType} (hd : decode M.2.1 pc = .ok (.ireturn, 1)) (hr : M.2.2.2 = some ty) (hn : narrow ty (.int v) = .int v) (hq : Q (some (.int v)) h G) : xV K M d cb sb h G pc ls [.int v] Q := by
  intro p l e s m args below meth c H locs cells slots lc MC MS C hH hS hL h1 h2
  obtain ⟨k1, k2, k3, k4, k5, k6, k7, k8, k9, k10, k11, k12⟩ := id C
  refine W.widen (k := MC) (n := MS) (by omega) (by omega) ?_
  exact W.zret k1 k2 (k3.trans hr) hn (fun t ht hW => ⟨⟨_, h, G, rfl, hq, xT_at C hH hS ht hW⟩, hS.F ht⟩) hS.2.2 hd k7
theorem x_lret {v : Int64} (hd : decode M.2.1 pc = .ok (.lreturn, 1)) (hr : M.2.2.2 = some .long) (hq : Q (some (.long v)) h G) : xV K M d cb sb h G pc ls [.long v] Q := by
  intro p l e s m args below meth c H locs cells slots lc MC MS C hH hS hL h1 h2
  obtain ⟨k1, k2, k3, k4, k5, k6, k7, k8, k9, k10, k11, k12⟩ := id C
  refine W.widen (k := MC) (n := MS) (by omega) (by omega) ?_
  exact W.lret k1 k2 (k3.trans hr) (fun t ht hW => ⟨⟨_, h, G, rfl, hq, xT_at C hH hS ht hW⟩, hS.F ht⟩) hS.2.2 hd k7
theorem x_vret (hd : decode M.2.1 pc = .ok (.return_, 1)) (hr : M.2.2.2 = none) (hq : Q none h G) : xV K M d cb sb h G pc ls [] Q := by
  intro p l e s m args below meth c H locs cells slots lc MC MS C hH hS hL h1 h2
  obtain ⟨k1, k2, k3, k4, k5, k6, k7, k8, k9, k10, k11, k12⟩ := id C
  refine W.widen (k := MC) (n := MS) (by omega) (by omega) ?_
  exact W.vret k1 k2 (k3.trans hr) (fun t ht hW => ⟨⟨_, h, G, rfl, hq, xT_at C hH hS ht hW⟩, hS.F ht⟩) hS.2.2 hd k7
theorem x_aret {v : Value} {rt : FieldType} (hd : decode M.2.1 pc = .ok (.areturn, 1)) (hr : M.2.2.2 = some rt) (hrt : (∃ n, rt = .object n) ∨ ∃ t, rt = .array t) (hv : v = .null ∨ ∃ a, v = .ref a) (hq : Q (some v) h G) : xV K M d cb sb h G pc ls [v] Q := by
  intro p l e s m args below meth c H locs cells slots lc MC MS C hH hS hL h1 h2
  obtain ⟨k1, k2, k3, k4, k5, k6, k7, k8, k9, k10, k11, k12⟩ := id C
  refine W.widen (k := MC) (n := MS) (by omega) (by omega) ?_
  exact W.aret k1 k2 (k3.trans hr) hrt hv (fun t ht hW => ⟨⟨_, h, G, rfl, hq, xT_at C hH hS ht hW⟩, hS.F ht⟩) hS.2.2 hd k7
/-- a method's contract out of the walk of its body -/
theorem x_entry {av : List Value} (hy : plainName M.1.cls = true) (hla : lv_args 0 av = ls) (hlen : (lg_sl av).length ≤ M.2.2.1) (k : xV K M d cb sb h G 0 ls [] Q) : xCall K M d cb sb av h G Q := by
  intro l
  refine Met.ofW (cc := M.2.1) (maxL := M.2.2.1) (ret := M.2.2.2) hy rfl ?_
  intro p e s m args below meth c s₁ B hml hv
  obtain ⟨rfl, hH, hK, hs, hz⟩ := hv
  have hts := atoms_spec B.pre
  have hl := lv_entry av (n := M.2.2.1) hlen
  rw [lg_entry_eq]
  generalize (lg_sl av ++ List.replicate (M.2.2.1 - (lg_sl av).length) Slot.unset).toArray = lc at hl ⊢
  rw [hla] at hl
  have hnm : meth.name = M.1.name := (name_of_methodNamed B.named B.method).1
  exact k p l e s m _ below meth c s.heap [] 0 0 lc cb sb ⟨B.exec, B.bytes, B.returns, hml, findClass_of_methodNamed B.named, fun w hw => hts w (List.mem_cons_of_mem _ hw), B.notSynchronized, hnm, hK, hs, hz, by rw [hH.1]; exact hH.2.1⟩ hH va_S.rf hl (by omega) (by omega)
theorem x_callpost {av : List Value} (hq : ∀ v h G, Q' v h G → Q v h G) (k : xCall K M d cb sb av h G Q') : xCall K M d cb sb av h G Q := by
  intro l p e ha hc hk s m args below hf hfit hheap happ
  obtain ⟨t, o, h1, h2, h3, ⟨⟨⟨v, h', G', c1, c2, c3⟩, c4⟩, h5⟩⟩ := k l p e ha hc hk s m args below hf hfit hheap happ
  exact ⟨t, o, h1, h2, h3, ⟨⟨⟨v, h', G', c1, hq _ _ _ c2, c3⟩, c4⟩, h5⟩⟩
end XC
