/-! ===== calls by what they answer ===== -/
def xRet (r : Option Value) (h : Nat) (G : xHp) : xPost := fun v h' G' => v = r ∧ h' = h ∧ G' = G
def xEx {α : Type} (P : α → Prop) (r : α → Option Value) (hh : α → Nat) (GG : α → xHp) : xPost := fun v h' G' => ∃ e, P e ∧ v = r e ∧ h' = hh e ∧ G' = GG e
theorem xRet_i {r : Option Value} {h : Nat} {G : xHp} : xRet r h G r h G := ⟨rfl, rfl, rfl⟩
theorem xRet_e {r r' : Option Value} {h : Nat} {G G' : xHp} (h1 : r = r') (h2 : G = G') : xRet r' h G' r h G := ⟨h1, rfl, h2⟩
theorem xEx_i {α : Type} {P : α → Prop} {r : α → Option Value} {hh : α → Nat} {GG : α → xHp} {r0 : Option Value} {h0 : Nat} {G0 : xHp} (e : α) (hp : P e) (h1 : r0 = r e) (h2 : h0 = hh e) (h3 : G0 = GG e) : xEx P r hh GG r0 h0 G0 := ⟨e, hp, h1, h2, h3⟩
section XP
variable {K : xG} {M N : xM} {d d' cb sb mc ms h : Nat} {G : xHp} {pc : Nat} {ls ls' : List (Nat × Value)} {st st0 st1 : List Value} {Q Q' : xPost} {r : Option Value} {h2 : Nat} {G2 : xHp}
variable {α : Type} {P : α → Prop} {rf : α → Option Value} {hf : α → Nat} {GG : α → xHp} {sf : α → List Value}
theorem x_cV {idx n a ci : Nat} {fs As : List Value} {q : vw_C} (hd : decode M.2.1 pc = .ok (.invokevirtual idx, 3)) (hN : xMv N n) (hlink : Cond.methodLink M.1.cls idx N.1 ∈ xW) (hci : vwCl[ci]? = some q) (hq : q.1 = N.1.cls) (hc : G a = some (eO ci fs)) (hn : As.length = n) (hdd : d' + 1 ≤ d) (hw : (st.map fun v => v.category).sum ≤ 8) (hM : xCall K N d' mc ms (.ref a :: As) h G (xRet r h2 G2)) (hst : As.reverse ++ .ref a :: st = st0) (hs : r.toList ++ st = st1) (k : xV K M d cb sb h2 G2 (pc + 3) ls st1 Q) : xV K M d (mc + cb) (ms + sb) h G pc ls st0 Q := by
  refine x_callV hd hN hlink hci hq hc hn hdd hw hM hst (fun v h' G' hq => ?_)
  obtain ⟨e1, e2, e3⟩ := hq
  subst e1; subst e2; subst e3; subst hs
  exact k
theorem x_cVe {idx n a ci : Nat} {fs As : List Value} {q : vw_C} (hd : decode M.2.1 pc = .ok (.invokevirtual idx, 3)) (hN : xMv N n) (hlink : Cond.methodLink M.1.cls idx N.1 ∈ xW) (hci : vwCl[ci]? = some q) (hq : q.1 = N.1.cls) (hc : G a = some (eO ci fs)) (hn : As.length = n) (hdd : d' + 1 ≤ d) (hw : (st.map fun v => v.category).sum ≤ 8) (hM : xCall K N d' mc ms (.ref a :: As) h G (xEx P rf hf GG)) (hst : As.reverse ++ .ref a :: st = st0) (hs : ∀ e, (rf e).toList ++ st = sf e) (k : ∀ e, P e → xV K M d cb sb (hf e) (GG e) (pc + 3) ls (sf e) Q) : xV K M d (mc + cb) (ms + sb) h G pc ls st0 Q := by
  refine x_callV hd hN hlink hci hq hc hn hdd hw hM hst (fun v h' G' hq => ?_)
  obtain ⟨e0, e4, e1, e2, e3⟩ := hq
  subst e1; subst e2; subst e3
  rw [hs e0]
  exact k e0 e4
theorem x_cS {idx n : Nat} {As : List Value} (hd : decode M.2.1 pc = .ok (.invokestatic idx, 3)) (hN : xMs N n) (hlink : Cond.methodLink M.1.cls idx N.1 ∈ xW) (hn : As.length = n) (hdd : d' + 1 ≤ d) (hw : (st.map fun v => v.category).sum ≤ 8) (hM : xCall K N d' mc ms (As) h G (xRet r h2 G2)) (hst : As.reverse ++ st = st0) (hs : r.toList ++ st = st1) (k : xV K M d cb sb h2 G2 (pc + 3) ls st1 Q) : xV K M d (mc + cb) (ms + sb) h G pc ls st0 Q := by
  refine x_callS hd hN hlink hn hdd hw hM hst (fun v h' G' hq => ?_)
  obtain ⟨e1, e2, e3⟩ := hq
  subst e1; subst e2; subst e3; subst hs
  exact k
theorem x_cSe {idx n : Nat} {As : List Value} (hd : decode M.2.1 pc = .ok (.invokestatic idx, 3)) (hN : xMs N n) (hlink : Cond.methodLink M.1.cls idx N.1 ∈ xW) (hn : As.length = n) (hdd : d' + 1 ≤ d) (hw : (st.map fun v => v.category).sum ≤ 8) (hM : xCall K N d' mc ms (As) h G (xEx P rf hf GG)) (hst : As.reverse ++ st = st0) (hs : ∀ e, (rf e).toList ++ st = sf e) (k : ∀ e, P e → xV K M d cb sb (hf e) (GG e) (pc + 3) ls (sf e) Q) : xV K M d (mc + cb) (ms + sb) h G pc ls st0 Q := by
  refine x_callS hd hN hlink hn hdd hw hM hst (fun v h' G' hq => ?_)
  obtain ⟨e0, e4, e1, e2, e3⟩ := hq
  subst e1; subst e2; subst e3
  rw [hs e0]
  exact k e0 e4
theorem x_cI {idx n a : Nat} {As : List Value} (hd : decode M.2.1 pc = .ok (.invokespecial idx, 3)) (hN : xMi N n) (hlink : Cond.methodLink M.1.cls idx N.1 ∈ xW) (hn : As.length = n) (hdd : d' + 1 ≤ d) (hw : (st.map fun v => v.category).sum ≤ 8) (hM : xCall K N d' mc ms (.ref a :: As) h G (xRet r h2 G2)) (hst : As.reverse ++ .ref a :: st = st0) (hs : r.toList ++ st = st1) (k : xV K M d cb sb h2 G2 (pc + 3) ls st1 Q) : xV K M d (mc + cb) (ms + sb) h G pc ls st0 Q := by
  refine x_callI hd hN hlink hn hdd hw hM hst (fun v h' G' hq => ?_)
  obtain ⟨e1, e2, e3⟩ := hq
  subst e1; subst e2; subst e3; subst hs
  exact k
theorem x_cIe {idx n a : Nat} {As : List Value} (hd : decode M.2.1 pc = .ok (.invokespecial idx, 3)) (hN : xMi N n) (hlink : Cond.methodLink M.1.cls idx N.1 ∈ xW) (hn : As.length = n) (hdd : d' + 1 ≤ d) (hw : (st.map fun v => v.category).sum ≤ 8) (hM : xCall K N d' mc ms (.ref a :: As) h G (xEx P rf hf GG)) (hst : As.reverse ++ .ref a :: st = st0) (hs : ∀ e, (rf e).toList ++ st = sf e) (k : ∀ e, P e → xV K M d cb sb (hf e) (GG e) (pc + 3) ls (sf e) Q) : xV K M d (mc + cb) (ms + sb) h G pc ls st0 Q := by
  refine x_callI hd hN hlink hn hdd hw hM hst (fun v h' G' hq => ?_)
  obtain ⟨e0, e4, e1, e2, e3⟩ := hq
  subst e1; subst e2; subst e3
  rw [hs e0]
  exact k e0 e4
theorem x_cIN {idx n a : Nat} {As : List Value} (hd : decode M.2.1 pc = .ok (.invokespecial idx, 3)) (hN : xMi N n) (hlink : (M.1.cls, idx, N.1) ∈ xNest) (hn : As.length = n) (hdd : d' + 1 ≤ d) (hw : (st.map fun v => v.category).sum ≤ 8) (hM : xCall K N d' mc ms (.ref a :: As) h G (xRet r h2 G2)) (hst : As.reverse ++ .ref a :: st = st0) (hs : r.toList ++ st = st1) (k : xV K M d cb sb h2 G2 (pc + 3) ls st1 Q) : xV K M d (mc + cb) (ms + sb) h G pc ls st0 Q := by
  refine x_callIN hd hN hlink hn hdd hw hM hst (fun v h' G' hq => ?_)
  obtain ⟨e1, e2, e3⟩ := hq
  subst e1; subst e2; subst e3; subst hs
  exact k
theorem x_cINe {idx n a : Nat} {As : List Value} (hd : decode M.2.1 pc = .ok (.invokespecial idx, 3)) (hN : xMi N n) (hlink : (M.1.cls, idx, N.1) ∈ xNest) (hn : As.length = n) (hdd : d' + 1 ≤ d) (hw : (st.map fun v => v.category).sum ≤ 8) (hM : xCall K N d' mc ms (.ref a :: As) h G (xEx P rf hf GG)) (hst : As.reverse ++ .ref a :: st = st0) (hs : ∀ e, (rf e).toList ++ st = sf e) (k : ∀ e, P e → xV K M d cb sb (hf e) (GG e) (pc + 3) ls (sf e) Q) : xV K M d (mc + cb) (ms + sb) h G pc ls st0 Q := by
  refine x_callIN hd hN hlink hn hdd hw hM hst (fun v h' G' hq => ?_)
  obtain ⟨e0, e4, e1, e2, e3⟩ := hq
  subst e1; subst e2; subst e3
  rw [hs e0]
  exact k e0 e4
theorem x_cVS {idx n i : Nat} {As : List Value} (hi : i < xs_n) (hd : decode M.2.1 pc = .ok (.invokevirtual idx, 3)) (hN : xMv N n) (hNs : N.1.cls = "java/lang/String") (hlink : Cond.methodLink M.1.cls idx N.1 ∈ xW) (hn : As.length = n) (hdd : d' + 1 ≤ d) (hw : (st.map fun v => v.category).sum ≤ 8) (hM : xCall K N d' mc ms (.ref (K.2.2.2.2.1 i) :: As) h G (xRet r h2 G2)) (hst : As.reverse ++ .ref (K.2.2.2.2.1 i) :: st = st0) (hs : r.toList ++ st = st1) (k : xV K M d cb sb h2 G2 (pc + 3) ls st1 Q) : xV K M d (mc + cb) (ms + sb) h G pc ls st0 Q := by
  refine x_callVS hi hd hN hNs hlink hn hdd hw hM hst (fun v h' G' hq => ?_)
  obtain ⟨e1, e2, e3⟩ := hq
  subst e1; subst e2; subst e3; subst hs
  exact k
theorem x_cVSe {idx n i : Nat} {As : List Value} (hi : i < xs_n) (hd : decode M.2.1 pc = .ok (.invokevirtual idx, 3)) (hN : xMv N n) (hNs : N.1.cls = "java/lang/String") (hlink : Cond.methodLink M.1.cls idx N.1 ∈ xW) (hn : As.length = n) (hdd : d' + 1 ≤ d) (hw : (st.map fun v => v.category).sum ≤ 8) (hM : xCall K N d' mc ms (.ref (K.2.2.2.2.1 i) :: As) h G (xEx P rf hf GG)) (hst : As.reverse ++ .ref (K.2.2.2.2.1 i) :: st = st0) (hs : ∀ e, (rf e).toList ++ st = sf e) (k : ∀ e, P e → xV K M d cb sb (hf e) (GG e) (pc + 3) ls (sf e) Q) : xV K M d (mc + cb) (ms + sb) h G pc ls st0 Q := by
  refine x_callVS hi hd hN hNs hlink hn hdd hw hM hst (fun v h' G' hq => ?_)
  obtain ⟨e0, e4, e1, e2, e3⟩ := hq
  subst e1; subst e2; subst e3
  rw [hs e0]
  exact k e0 e4
end XP
