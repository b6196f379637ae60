/-! ===== heap rows, calls, returns ===== -/
def xCls (ci : Nat) (C : String) (T : u_T) (N : Nat) (ty : Nat → FieldType) : Prop := vwCl[ci]? = some (C, T, N) ∧ (∀ w ∈ u_ws C T N, w ∈ xW) ∧ (∀ k, k < N → parseFieldDescriptor (T k).2.2.1 = some (ty k)) ∧ (∀ a, a < N → ∀ b, b < N → a ≠ b → (T a).2.1 ≠ (T b).2.1)
def xF (own : String) (idx ci k : Nat) (fty : FieldType) (fin : Bool) : Prop := ∃ (C : String) (T : u_T) (N : Nat) (ty : Nat → FieldType), xCls ci C T N ty ∧ k < N ∧ Cond.fieldLink own idx (T k).1 (T k).2.1 (T k).2.2.1 ∈ xW ∧ parseFieldDescriptor (T k).2.2.1 = some fty ∧ (T k).2.2.2 = fin ∧ (T k).1 = C
theorem xP1 {D : va_G} {cl : List vw_C} {q : Nat × va_E} {H : Heap} (h : va_at D cl q H) : va_P D cl [q] H := by
  intro k r hk
  have hz : k < 1 := (List.getElem?_eq_some_iff.mp hk).1
  rw [show k = 0 by omega] at hk
  cases hk
  exact h
theorem xH_up {K : xG} {h a : Nat} {G : xHp} {H H1 : Heap} {e0 e : xE} (hH : xH K h G H) (hc : G a = some e0) (he : va_at (xD K) vwCl (a, xcv K e) H1) (z : H1.size = H.size) (oq : ∀ q : Nat, q ≠ a → H1[q]? = H[q]?) : xH K h (xup G a e) H1 := by
  refine ⟨by rw [z]; exact hH.1, hH.2.1, fun b eb hb => ?_⟩
  by_cases hba : b = a
  · subst hba
    rw [xup_eq] at hb
    cases hb
    exact ⟨(hH.2.2 b e0 hc).1, he⟩
  · rw [xup_ne hba] at hb
    exact ⟨(hH.2.2 b eb hb).1, (hH.2.2 b eb hb).2.kept (oq b hba)⟩
theorem xH_push {K : xG} {h : Nat} {G : xHp} {H H1 : Heap} {e : xE} (hH : xH K h G H) (he : va_at (xD K) vwCl (h, xcv K e) H1) (z : H1.size = h + 1) (oq : ∀ q : Nat, q < h → H1[q]? = H[q]?) : xH K (h + 1) (xup G h e) H1 := by
  refine ⟨z, Nat.le_succ_of_le hH.2.1, fun b eb hb => ?_⟩
  by_cases hba : b = h
  · subst hba
    rw [xup_eq] at hb
    cases hb
    exact ⟨hH.2.1, he⟩
  · rw [xup_ne hba] at hb
    have h1 := hH.2.2 b eb hb
    have hlt : b < H.size := h1.2.lt
    exact ⟨h1.1, h1.2.kept (oq b (by rw [hH.1] at hlt; exact hlt))⟩
theorem xSt_at {K : xG} {s t : State} {H : Heap} {locs : List Loc} (hs : xSt K s s.heap) (hS : va_S (xA K) s.heap H locs) (ht : t.heap = H) (hW : s.WarmedH t.vm) : xSt K t t.heap := by
  intro i hi
  obtain ⟨a1, a2, a3, a4, a5⟩ := hs i hi
  rw [ht]
  exact ⟨va_O.moved hW.alike (a1.kept hS.2.1), va_OF.moved hW.alike (a2.kept hS.2.1), va_OF.moved hW.alike (a3.kept hS.2.1), va_T.moved hW.alike (a4.kept hS.2.1), a5.warm hW⟩
theorem xZs_at {K : xG} {s t : State} {H : Heap} {locs : List Loc} (hs : xZs K s s.heap) (hS : va_S (xA K) s.heap H locs) (ht : t.heap = H) (hW : s.WarmedH t.vm) : xZs K t t.heap := by
  obtain ⟨h1, h2, h3, h4, h5⟩ := hs
  unfold xZs
  rw [ht]
  exact ⟨va_Z.moved hW.alike (h1.kept hS.2.1), va_Zq.moved hW.alike (h2.kept hS.2.1), fun q hq => va_Nw.warmM hW (h3 q hq), va_AO.moved hW.alike h4, va_AO.moved hW.alike h5⟩
theorem xT_at {K : xG} {M : xM} {p : Program} {s t : State} {m : MethodId} {args : Array Value} {meth : Method} {c : Code} {h : Nat} {G : xHp} {H : Heap} {locs : List Loc} (C : xC K M p s m args meth c) (hH : xH K h G H) (hS : va_S (xA K) s.heap H locs) (ht : t.heap = H) (hW : s.WarmedH t.vm) : xT K h G t := by
  obtain ⟨-, -, -, -, -, -, -, -, hK, hs, hz, -⟩ := C
  exact ⟨by rw [ht]; exact hH, va_K.moved hW.alike hK, xSt_at hs hS ht hW, xZs_at hz hS ht hW⟩
theorem xT_blind {K : xG} {h : Nat} {G : xHp} {av : List Value} : FrameBlind (va_Pc av (xT K h G)) := by
  intro a U g mk q
  obtain ⟨q0, qH, qK, qS, qZ⟩ := q
  refine ⟨q0, qH, va_K.moved (u := U) (U := U.calling g mk a) (Vm.Alike.refl U.vm) qK, fun i hi => ?_, ?_⟩
  · obtain ⟨a1, a2, a3, a4, a5⟩ := qS i hi
    exact ⟨va_O.moved (u := U) (U := U.calling g mk a) (Vm.Alike.refl U.vm) a1, va_OF.moved (u := U) (U := U.calling g mk a) (Vm.Alike.refl U.vm) a2, va_OF.moved (u := U) (U := U.calling g mk a) (Vm.Alike.refl U.vm) a3, va_T.moved (u := U) (U := U.calling g mk a) (Vm.Alike.refl U.vm) a4, vk_R.same (u := U) (U := U.calling g mk a) rfl a5⟩
  · obtain ⟨z1, z2, z3, z4, z5⟩ := qZ
    exact ⟨va_Z.moved (u := U) (U := U.calling g mk a) (Vm.Alike.refl U.vm) z1, va_Zq.moved (u := U) (U := U.calling g mk a) (Vm.Alike.refl U.vm) z2, fun q hq => va_Nw.same rfl (u := U) (U := U.calling g mk a) rfl (z3 q hq), va_AO.moved (u := U) (U := U.calling g mk a) (Vm.Alike.refl U.vm) z4, va_AO.moved (u := U) (U := U.calling g mk a) (Vm.Alike.refl U.vm) z5⟩
section XH
variable {K : xG} {M : xM} {d cb sb h : Nat} {G : xHp} {pc : Nat} {ls ls' : List (Nat × Value)} {st : List Value} {Q : xPost}
theorem x_geq {G' : xHp} (hG : G = G') (k : xV K M d cb sb h G' pc ls st Q) : xV K M d cb sb h G pc ls st Q := hG ▸ k
theorem x_seq {st' : List Value} (hG : st = st') (k : xV K M d cb sb h G pc ls st' Q) : xV K M d cb sb h G pc ls st Q := hG ▸ k
theorem x_leq (hG : ls = ls') (k : xV K M d cb sb h G pc ls' st Q) : xV K M d cb sb h G pc ls st Q := hG ▸ k
theorem x_topi {x y : Int32} (hG : x = y) (k : xV K M d cb sb h G pc ls (.int y :: st) Q) : xV K M d cb sb h G pc ls (.int x :: st) Q := hG ▸ k
theorem x_topl {x y : Int64} (hG : x = y) (k : xV K M d cb sb h G pc ls (.long y :: st) Q) : xV K M d cb sb h G pc ls (.long x :: st) Q := hG ▸ k
theorem x_post {Q' : xPost} (hq : ∀ v h G, Q' v h G → Q v h G) (k : xV K M d cb sb h G pc ls st Q') : xV K M d cb sb h G pc ls st Q := by
  intro p l e s m args below meth c H locs cells slots lc MC MS C hH hS hL h1 h2 T hT X
  obtain ⟨t, a, o, b1, b2, ⟨⟨v, h', G', c1, c2, c3⟩, c4⟩, b4⟩ := k p l e s m args below meth c H locs cells slots lc MC MS C hH hS hL h1 h2 T hT X
  exact ⟨t, a, o, b1, b2, ⟨⟨v, h', G', c1, hq _ _ _ c2, c3⟩, c4⟩, b4⟩
theorem x_mono {cb' sb' : Nat} (hc : cb' ≤ cb) (hs : sb' ≤ sb) (k : xV K M d cb' sb' h G pc ls st Q) : xV K M d cb sb h G pc ls st Q := by
  intro p l e s m args below meth c H locs cells slots lc MC MS C hH hS hL h1 h2
  exact k p l e s m args below meth c H locs cells slots lc MC MS C hH hS hL (by omega) (by omega)
theorem x_get {idx ci k a : Nat} {fty : FieldType} {fin : Bool} {fs : List Value} {v : Value} (hd : decode M.2.1 pc = .ok (.getfield idx, 3)) (hF : xF M.1.cls idx ci k fty fin) (hc : G a = some (eO ci fs)) (hv : fs[k]? = some v) (kk : xV K M d cb sb h G (pc + 3) ls (v :: st) Q) : xV K M d cb sb h G pc ls (.ref a :: st) Q := by
  intro p l e s m args below meth c H locs cells slots lc MC MS C hH hS hL h1 h2
  obtain ⟨CN, T, N, ty, hcl, hk, hlink, -, -, -⟩ := hF
  obtain ⟨k1, k2, k3, k4, k5, k6, k7, k8, k9, k10, k11, k12⟩ := id C
  exact va_get (ws := [(a, .inr (ci, fs))]) k1 k2 k6 hcl.2.1 k5 k9 (xP1 (hH.2.2 a _ hc).2) 0 rfl hcl.1 k hk (k6 _ hlink) (fun _ h9 => h9) hv hd (kk p l e s m args below meth c H locs cells slots lc MC MS C hH hS hL h1 h2)
theorem x_put {idx ci k a : Nat} {fty : FieldType} {fs fs' : List Value} {v : Value} (hd : decode M.2.1 pc = .ok (.putfield idx, 3)) (hF : xF M.1.cls idx ci k fty false) (hc : G a = some (eO ci fs)) (hl : k < fs.length) (hfs : fs.set k v = fs') (hn : narrow fty v = v) (hfit : fits fty v = true) (kk : xV K M d cb sb h (xup G a (eO ci fs')) (pc + 3) ls st Q) : xV K M d cb sb h G pc ls (v :: .ref a :: st) Q := by
  intro p l e s m args below meth c H locs cells slots lc MC MS C hH hS hL h1 h2
  obtain ⟨CN, T, N, ty, hcl, hk, hlink, hpd, hfin, -⟩ := hF
  obtain ⟨k1, k2, k3, k4, k5, k6, k7, k8, k9, k10, k11, k12⟩ := id C
  have hap := va_apart (own := M.1.cls) k6 hcl.2.1 ty hcl.2.2.1 hcl.2.2.2 k9 hcl.1
  obtain ⟨hKa, hat⟩ := hH.2.2 a _ hc
  obtain ⟨r, g1, cell, q1, q2, q3, q4⟩ := hat
  have hr : r = (CN, T, N) := Option.some.inj (g1.symm.trans hcl.1)
  subst hr
  obtain ⟨hSl, hfc, kC, hkC, hkind⟩ := k9.1 ci _ hcl.1
  obtain ⟨cf, kf, fi, f, hi, hsl⟩ := hSl k hk
  have hlay := k6 _ (hcl.2.1 _ (u_in_lay hk))
  unfold u_lay at hlay
  rw [if_neg (by rw [hfin]; decide)] at hlay
  have hst := (u_facts hfc hkC (u_lays k6 hcl.2.1 hk) hi).1
  have h6 := u_store hfc hkC hkind hlay hi hpd hn hfit
  refine W.putK k1 k2 (f := f) ⟨k5, k6 _ hlink, ⟨_, _, _, hi⟩, hst⟩ (by rw [q2]; exact h6) q1 q3 (by rw [hsl]; exact k2_hasslot (q4 k hk)) rfl rfl hd fun H' e1 e2 e3 => ?_
  rw [hsl] at e1 ⊢
  subst hfs
  have hat' : va_at (xD K) vwCl (a, xcv K (eO ci (fs.set k v))) H' := ⟨_, hcl.1, t_OB.to (V := updV (vp_V fs) k v) ⟨_, e1, q2, q3, t_set q4 hap hk v⟩ (fun j _ => vp_updV_set hl v j)⟩
  exact kk p l e s m args below meth c H' _ cells slots lc MC MS C (xH_up hH hc hat' e2 e3) (hS.put e2 e3 hKa) hL h1 h2
theorem x_putF {idx ci k a : Nat} {fty : FieldType} {fs fs' : List Value} {v : Value} (hd : decode M.2.1 pc = .ok (.putfield idx, 3)) (hF : xF M.1.cls idx ci k fty true) (hin2 : M.1.name = "<init>") (hdc : (vwCl[ci]?).map (fun q => q.1) = some M.1.cls) (hc : G a = some (eO ci fs)) (hl : k < fs.length) (hfs : fs.set k v = fs') (hn : narrow fty v = v) (hfit : fits fty v = true) (kk : xV K M d cb sb h (xup G a (eO ci fs')) (pc + 3) ls st Q) : xV K M d cb sb h G pc ls (v :: .ref a :: st) Q := by
  intro p l e s m args below meth c H locs cells slots lc MC MS C hH hS hL h1 h2
  obtain ⟨CN, T, N, ty, hcl, hk, hlink, hpd, hfin, hdecl⟩ := hF
  obtain ⟨k1, k2, k3, k4, k5, k6, k7, k8, k9, k10, k11, k12⟩ := id C
  have hap := va_apart (own := M.1.cls) k6 hcl.2.1 ty hcl.2.2.1 hcl.2.2.2 k9 hcl.1
  obtain ⟨hKa, hat⟩ := hH.2.2 a _ hc
  obtain ⟨r, g1, cell, q1, q2, q3, q4⟩ := hat
  have hr : r = (CN, T, N) := Option.some.inj (g1.symm.trans hcl.1)
  subst hr
  have hCN : CN = M.1.cls := by
    rw [hcl.1] at hdc
    exact Option.some.inj hdc
  obtain ⟨hSl, hfc, kC, hkC, hkind⟩ := k9.1 ci _ hcl.1
  obtain ⟨cf, kf, fi, f, hi, hsl⟩ := hSl k hk
  have hlay := k6 _ (hcl.2.1 _ (u_in_lay hk))
  unfold u_lay at hlay
  rw [if_pos hfin] at hlay
  have hst := (u_facts hfc hkC (u_lays k6 hcl.2.1 hk) hi).1
  have hcf : m.cls = cf := by
    obtain ⟨_, _, c', _, _, _, -, -, hf', -, -, -, hown2, -⟩ := Cond.laysFinal_spec hlay
    have e1 : c' = cf := by have := hi.symm.trans hf'; simp at this; exact this.1.symm
    rw [hdecl, hCN] at hown2
    rw [← e1]; exact Option.some.inj (k5.symm.trans hown2)
  have h6 := u_fits hfc hkC hkind (Or.inr hlay) hi hpd hn hfit
  refine W.putFinK k1 k2 k5 (k6 _ hlink) hi hst hcf (k8.trans hin2) (by rw [q2]; exact h6) q1 q3 (by rw [hsl]; exact k2_hasslot (q4 k hk)) rfl rfl hd fun H' e1 e2 e3 => ?_
  rw [hsl] at e1 ⊢
  subst hfs
  have hat' : va_at (xD K) vwCl (a, xcv K (eO ci (fs.set k v))) H' := ⟨_, hcl.1, t_OB.to (V := updV (vp_V fs) k v) ⟨_, e1, q2, q3, t_set q4 hap hk v⟩ (fun j _ => vp_updV_set hl v j)⟩
  exact kk p l e s m args below meth c H' _ cells slots lc MC MS C (xH_up hH hc hat' e2 e3) (hS.put e2 e3 hKa) hL h1 h2
theorem x_iald {a n : Nat} {f : Nat → Int32} {i : Int32} (hd : decode M.2.1 pc = .ok (.iaload, 1)) (hc : G a = some (eI 0 n f)) (hin : vp_in i n) (kk : xV K M d cb sb h G (pc + 1) ls (.int (f i.toNatClampNeg) :: st) Q) : xV K M d cb sb h G pc ls (.int i :: .ref a :: st) Q := by
  intro p l e s m args below meth c H locs cells slots lc MC MS C hH hS hL h1 h2
  obtain ⟨k1, k2, k3, k4, k5, k6, k7, k8, k9, k10, k11, k12⟩ := id C
  exact va_iald (ws := [(a, xcv K (eI 0 n f))]) k1 k2 k9 (xP1 (hH.2.2 a _ hc).2) 0 0 rfl rfl hin hd (kk p l e s m args below meth c H locs cells slots lc MC MS C hH hS hL h1 h2)
theorem x_bald {a n : Nat} {f : Nat → Int32} {i : Int32} (hd : decode M.2.1 pc = .ok (.baload, 1)) (hc : G a = some (eI 1 n f)) (hin : vp_in i n) (kk : xV K M d cb sb h G (pc + 1) ls (.int (f i.toNatClampNeg) :: st) Q) : xV K M d cb sb h G pc ls (.int i :: .ref a :: st) Q := by
  intro p l e s m args below meth c H locs cells slots lc MC MS C hH hS hL h1 h2
  obtain ⟨k1, k2, k3, k4, k5, k6, k7, k8, k9, k10, k11, k12⟩ := id C
  exact va_bald (ws := [(a, xcv K (eI 1 n f))]) k1 k2 k9 (xP1 (hH.2.2 a _ hc).2) 0 1 rfl rfl hin hd (kk p l e s m args below meth c H locs cells slots lc MC MS C hH hS hL h1 h2)
theorem x_zald {a n : Nat} {f : Nat → Int32} {i : Int32} (hd : decode M.2.1 pc = .ok (.baload, 1)) (hc : G a = some (eI 2 n f)) (hin : vp_in i n) (kk : xV K M d cb sb h G (pc + 1) ls (.int (f i.toNatClampNeg) :: st) Q) : xV K M d cb sb h G pc ls (.int i :: .ref a :: st) Q := by
  intro p l e s m args below meth c H locs cells slots lc MC MS C hH hS hL h1 h2
  obtain ⟨k1, k2, k3, k4, k5, k6, k7, k8, k9, k10, k11, k12⟩ := id C
  exact va_zald (ws := [(a, xcv K (eI 2 n f))]) k1 k2 k9 (xP1 (hH.2.2 a _ hc).2) 0 2 rfl rfl hin hd (kk p l e s m args below meth c H locs cells slots lc MC MS C hH hS hL h1 h2)
theorem x_lald {a n : Nat} {f : Nat → Int64} {i : Int32} (hd : decode M.2.1 pc = .ok (.laload, 1)) (hc : G a = some (eJ n f)) (hin : vp_in i n) (kk : xV K M d cb sb h G (pc + 1) ls (.long (f i.toNatClampNeg) :: st) Q) : xV K M d cb sb h G pc ls (.int i :: .ref a :: st) Q := by
  intro p l e s m args below meth c H locs cells slots lc MC MS C hH hS hL h1 h2
  obtain ⟨k1, k2, k3, k4, k5, k6, k7, k8, k9, k10, k11, k12⟩ := id C
  exact va_lald (ws := [(a, xcv K (eJ n f))]) k1 k2 k9 (xP1 (hH.2.2 a _ hc).2) 0 3 rfl rfl hin hd (kk p l e s m args below meth c H locs cells slots lc MC MS C hH hS hL h1 h2)
theorem x_aald4 {a n : Nat} {f : Nat → Option Nat} {i : Int32} (hd : decode M.2.1 pc = .ok (.aaload, 1)) (hc : G a = some (eQ 0 n f)) (hin : vp_in i n) (kk : xV K M d cb sb h G (pc + 1) ls (va_rf (f i.toNatClampNeg) :: st) Q) : xV K M d cb sb h G pc ls (.int i :: .ref a :: st) Q := by
  intro p l e s m args below meth c H locs cells slots lc MC MS C hH hS hL h1 h2
  obtain ⟨k1, k2, k3, k4, k5, k6, k7, k8, k9, k10, k11, k12⟩ := id C
  exact va_aldq (ws := [(a, xcv K (eQ 0 n f))]) k1 k2 k9 (xP1 (hH.2.2 a _ hc).2) 0 4 rfl rfl hin hd (kk p l e s m args below meth c H locs cells slots lc MC MS C hH hS hL h1 h2)
theorem x_aald5 {a n : Nat} {f : Nat → Option Nat} {i : Int32} (hd : decode M.2.1 pc = .ok (.aaload, 1)) (hc : G a = some (eQ 1 n f)) (hin : vp_in i n) (kk : xV K M d cb sb h G (pc + 1) ls (va_rf (f i.toNatClampNeg) :: st) Q) : xV K M d cb sb h G pc ls (.int i :: .ref a :: st) Q := by
  intro p l e s m args below meth c H locs cells slots lc MC MS C hH hS hL h1 h2
  obtain ⟨k1, k2, k3, k4, k5, k6, k7, k8, k9, k10, k11, k12⟩ := id C
  exact va_aldq (ws := [(a, xcv K (eQ 1 n f))]) k1 k2 k9 (xP1 (hH.2.2 a _ hc).2) 0 5 rfl rfl hin hd (kk p l e s m args below meth c H locs cells slots lc MC MS C hH hS hL h1 h2)
theorem x_alen {a : Nat} {t n : Nat} {f : Nat → Int32} (hd : decode M.2.1 pc = .ok (.arraylength, 1)) (ht : t < 3) (hc : G a = some (eI t n f)) (kk : xV K M d cb sb h G (pc + 1) ls (.int (nI n) :: st) Q) : xV K M d cb sb h G pc ls (.ref a :: st) Q := by
  intro p l e s m args below meth c H locs cells slots lc MC MS C hH hS hL h1 h2
  obtain ⟨k1, k2, k3, k4, k5, k6, k7, k8, k9, k10, k11, k12⟩ := id C
  have hk := kk p l e s m args below meth c H locs cells slots lc MC MS C hH hS hL h1 h2
  rcases (show t = 0 ∨ t = 1 ∨ t = 2 by omega) with rfl | rfl | rfl
  · exact va_alen (ws := [(a, xcv K (eI 0 n f))]) k1 k2 k9 (xP1 (hH.2.2 a _ hc).2) 0 0 rfl rfl rfl hd hk
  · exact va_alen (ws := [(a, xcv K (eI 1 n f))]) k1 k2 k9 (xP1 (hH.2.2 a _ hc).2) 0 1 rfl rfl rfl hd hk
  · exact va_alen (ws := [(a, xcv K (eI 2 n f))]) k1 k2 k9 (xP1 (hH.2.2 a _ hc).2) 0 2 rfl rfl rfl hd hk
theorem x_alenJ {a n : Nat} {f : Nat → Int64} (hd : decode M.2.1 pc = .ok (.arraylength, 1)) (hc : G a = some (eJ n f)) (kk : xV K M d cb sb h G (pc + 1) ls (.int (nI n) :: st) Q) : xV K M d cb sb h G pc ls (.ref a :: st) Q := by
  intro p l e s m args below meth c H locs cells slots lc MC MS C hH hS hL h1 h2
  obtain ⟨k1, k2, k3, k4, k5, k6, k7, k8, k9, k10, k11, k12⟩ := id C
  exact va_alen (ws := [(a, xcv K (eJ n f))]) k1 k2 k9 (xP1 (hH.2.2 a _ hc).2) 0 3 rfl rfl rfl hd (kk p l e s m args below meth c H locs cells slots lc MC MS C hH hS hL h1 h2)
theorem x_alenQ {a n : Nat} {f : Nat → Option Nat} (hd : decode M.2.1 pc = .ok (.arraylength, 1)) (hc : G a = some (eQ 0 n f)) (kk : xV K M d cb sb h G (pc + 1) ls (.int (nI n) :: st) Q) : xV K M d cb sb h G pc ls (.ref a :: st) Q := by
  intro p l e s m args below meth c H locs cells slots lc MC MS C hH hS hL h1 h2
  obtain ⟨k1, k2, k3, k4, k5, k6, k7, k8, k9, k10, k11, k12⟩ := id C
  exact va_alen (ws := [(a, xcv K (eQ 0 n f))]) k1 k2 k9 (xP1 (hH.2.2 a _ hc).2) 0 4 rfl rfl rfl hd (kk p l e s m args below meth c H locs cells slots lc MC MS C hH hS hL h1 h2)
theorem x_iast {a n : Nat} {f : Nat → Int32} {i x : Int32} (hd : decode M.2.1 pc = .ok (.iastore, 1)) (hc : G a = some (eI 0 n f)) (hin : vp_in i n) (kk : xV K M d cb sb h (xup G a (eI 0 n (upd f i.toNatClampNeg x))) (pc + 1) ls st Q) : xV K M d cb sb h G pc ls (.int x :: .int i :: .ref a :: st) Q := by
  intro p l e s m args below meth c H locs cells slots lc MC MS C hH hS hL h1 h2
  obtain ⟨k1, k2, k3, k4, k5, k6, k7, k8, k9, k10, k11, k12⟩ := id C
  obtain ⟨hKa, hat⟩ := hH.2.2 a _ hc
  refine W.iast k1 k2 hat ((k9.2 0 _ rfl).1 n (fun j => .int (f j))) (fun q => by cases q) (by show ¬ (i < 0 ∨ (arrV _ _ _).slots.size ≤ _); rw [arrV_size]; exact hin) rfl rfl hd fun H1 e1 z oq => ?_
  have hat' : va_at (xD K) vwCl (a, xcv K (eI 0 n (upd f i.toNatClampNeg x))) H1 := by
    show H1[a]? = some (vp_cell _ _)
    rw [e1]
    rw [vp_cell_i, vp_cell_i, arrV_store]
    congr 2
    funext q
    by_cases hq : q = i.toNatClampNeg
    · subst hq
      simp [updV, upd]
    · simp [updV, upd, hq]
  exact kk p l e s m args below meth c H1 _ cells slots lc MC MS C (xH_up hH hc hat' z oq) (hS.put z oq hKa) hL h1 h2
theorem x_bast {a n : Nat} {f : Nat → Int32} {i x : Int32} (hd : decode M.2.1 pc = .ok (.bastore, 1)) (hc : G a = some (eI 1 n f)) (hin : vp_in i n) (kk : xV K M d cb sb h (xup G a (eI 1 n (upd f i.toNatClampNeg (vp_nar .byte x)))) (pc + 1) ls st Q) : xV K M d cb sb h G pc ls (.int x :: .int i :: .ref a :: st) Q := by
  intro p l e s m args below meth c H locs cells slots lc MC MS C hH hS hL h1 h2
  obtain ⟨k1, k2, k3, k4, k5, k6, k7, k8, k9, k10, k11, k12⟩ := id C
  obtain ⟨hKa, hat⟩ := hH.2.2 a _ hc
  refine W.bast k1 k2 hat ((k9.2 1 _ rfl).1 n (fun j => .int (f j))) (fun q => by cases q) (by show ¬ (i < 0 ∨ (arrV _ _ _).slots.size ≤ _); rw [arrV_size]; exact hin) rfl rfl hd fun H1 e1 z oq => ?_
  have hat' : va_at (xD K) vwCl (a, xcv K (eI 1 n (upd f i.toNatClampNeg (vp_nar .byte x)))) H1 := by
    show H1[a]? = some (vp_cell _ _)
    rw [e1]
    rw [vp_cell_i, vp_cell_i, arrV_store]
    congr 2
    funext q
    by_cases hq : q = i.toNatClampNeg
    · subst hq
      simp [updV, upd, vp_nar]
      try rfl
    · simp [updV, upd, hq]
  exact kk p l e s m args below meth c H1 _ cells slots lc MC MS C (xH_up hH hc hat' z oq) (hS.put z oq hKa) hL h1 h2
theorem x_zast {a n : Nat} {f : Nat → Int32} {i x : Int32} (hd : decode M.2.1 pc = .ok (.bastore, 1)) (hc : G a = some (eI 2 n f)) (hin : vp_in i n) (kk : xV K M d cb sb h (xup G a (eI 2 n (upd f i.toNatClampNeg (vp_nar .boolean x)))) (pc + 1) ls st Q) : xV K M d cb sb h G pc ls (.int x :: .int i :: .ref a :: st) Q := by
  intro p l e s m args below meth c H locs cells slots lc MC MS C hH hS hL h1 h2
  obtain ⟨k1, k2, k3, k4, k5, k6, k7, k8, k9, k10, k11, k12⟩ := id C
  obtain ⟨hKa, hat⟩ := hH.2.2 a _ hc
  refine W.zast k1 k2 hat ((k9.2 2 _ rfl).1 n (fun j => .int (f j))) (fun q => by cases q) (by show ¬ (i < 0 ∨ (arrV _ _ _).slots.size ≤ _); rw [arrV_size]; exact hin) rfl rfl hd fun H1 e1 z oq => ?_
  have hat' : va_at (xD K) vwCl (a, xcv K (eI 2 n (upd f i.toNatClampNeg (vp_nar .boolean x)))) H1 := by
    show H1[a]? = some (vp_cell _ _)
    rw [e1]
    rw [vp_cell_i, vp_cell_i, arrV_store]
    congr 2
    funext q
    by_cases hq : q = i.toNatClampNeg
    · subst hq
      simp [updV, upd, vp_nar]
      try rfl
    · simp [updV, upd, hq]
  exact kk p l e s m args below meth c H1 _ cells slots lc MC MS C (xH_up hH hc hat' z oq) (hS.put z oq hKa) hL h1 h2
theorem x_last {a n : Nat} {f : Nat → Int64} {i : Int32} {x : Int64} (hd : decode M.2.1 pc = .ok (.lastore, 1)) (hc : G a = some (eJ n f)) (hin : vp_in i n) (kk : xV K M d cb sb h (xup G a (eJ n (vp_updL f i.toNatClampNeg x))) (pc + 1) ls st Q) : xV K M d cb sb h G pc ls (.long x :: .int i :: .ref a :: st) Q := by
  intro p l e s m args below meth c H locs cells slots lc MC MS C hH hS hL h1 h2
  obtain ⟨k1, k2, k3, k4, k5, k6, k7, k8, k9, k10, k11, k12⟩ := id C
  obtain ⟨hKa, hat⟩ := hH.2.2 a _ hc
  refine W.last k1 k2 hat ((k9.2 3 _ rfl).1 n (fun j => .long (f j))) (fun q => by cases q) (by show ¬ (i < 0 ∨ (arrV _ _ _).slots.size ≤ _); rw [arrV_size]; exact hin) rfl rfl hd fun H1 e1 z oq => ?_
  have hat' : va_at (xD K) vwCl (a, xcv K (eJ n (vp_updL f i.toNatClampNeg x))) H1 := by
    show H1[a]? = some (vp_cell _ _)
    rw [e1]
    rw [vp_cell_l, vp_cell_l, arrV_store]
    congr 2
    funext q
    by_cases hq : q = i.toNatClampNeg
    · subst hq
      simp [updV, vp_updL]
    · simp [updV, vp_updL, hq]
  exact kk p l e s m args below meth c H1 _ cells slots lc MC MS C (xH_up hH hc hat' z oq) (hS.put z oq hKa) hL h1 h2
end XH
