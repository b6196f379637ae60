/-! ===== the class's world ===== -/
def HRs (G : xHp) (b tx : Nat) : Prop := G b = some (eO 4 [.ref (b + 9), .ref (b + 1)]) ∧ (∃ hl e w, (∀ j, hl 1 j ≤ 9) ∧ HallW G (b + 1) hl e w) ∧ ∃ a1 a2 a3 a4 a5 a6 a7 : Int32, G (b + 9) = some (eO 7 [.ref tx, .int a1, .int a2, .int a3, .int a4, .int a5, .int a6, .int a7])
def RRs (G : xHp) (b tx : Nat) : Prop := (∃ z1 z2 : Int32, G b = some (eO 9 [.ref (b + 2), .ref (b + 1), .int z1, .int z2])) ∧ (∃ st, G (b + 1) = some (eI 0 400 st)) ∧ ∃ a1 a2 a3 a4 a5 a6 a7 : Int32, G (b + 2) = some (eO 7 [.ref tx, .int a1, .int a2, .int a3, .int a4, .int a5, .int a6, .int a7])
def AsAt (G : xHp) (x : Nat) : Prop := ∃ (hk : xHl) (rk : xRw) (rt : Option Nat) (ch mo : Int32) (tr : Nat → Int32) (B : xB), G (x + 36) = some (asksO x ch mo) ∧ DayAt G (x + 37) hk rk (x + 16) rt ∧ MtAt G (x + 47) (x + 37) tr B
def JuAt (G : xHp) (j : Nat) : Prop := ∃ wd sk, JudgeAt G j wd sk
def TpAt (G : xHp) (x : Nat) (tp : Nat → Nat) (tn : Nat) : Prop := G (x + 1) = some (eI 0 400 (nF tp)) ∧ (∀ j, tp j < 256) ∧ tn ≤ 400
abbrev clsO (x tn rc : Nat) : xE := eO 11 [.ref (x + 1), .int (nI tn), .ref (x + 2), .ref (x + 12), .ref (x + 15), .int (nI rc), .ref (x + 16), .ref (x + 19), .ref (x + 26), .ref (x + 36), .ref (x + 50)]
def ClsM (G : xHp) (x : Nat) (tp : Nat → Nat) (tn rc : Nat) (ruf ima : Nat → Option Nat) (c : xCo) (ru : Option Nat) : Prop := G x = some (clsO x tn rc) ∧ TpAt G x tp tn ∧ HRs G (x + 2) (x + 1) ∧ RRs G (x + 12) (x + 1) ∧ G (x + 15) = some (eQ 0 6 ruf) ∧ JuAt G (x + 16) ∧ StAt G (x + 19) (x + 16) c ru ∧ AsAt G x ∧ G (x + 50) = some (eQ 1 4 ima)
theorem HRs.fr {G G' : xHp} {b tx : Nat} (h : HRs G b tx) (hf : ∀ a, b ≤ a → a < b + 10 → G' a = G a) : HRs G' b tx := by
  obtain ⟨h1, ⟨hl, e, w, h9, h2⟩, ⟨a1, a2, a3, a4, a5, a6, a7, h3⟩⟩ := h
  exact ⟨(hf _ (by omega) (by omega)).trans h1, ⟨hl, e, w, h9, h2.fr (fun a p q => hf a (by omega) (by omega))⟩, ⟨a1, a2, a3, a4, a5, a6, a7, (hf _ (by omega) (by omega)).trans h3⟩⟩
theorem RRs.fr {G G' : xHp} {b tx : Nat} (h : RRs G b tx) (hf : ∀ a, b ≤ a → a < b + 3 → G' a = G a) : RRs G' b tx := by
  obtain ⟨⟨z1, z2, h1⟩, ⟨st, h2⟩, ⟨a1, a2, a3, a4, a5, a6, a7, h3⟩⟩ := h
  exact ⟨⟨z1, z2, (hf _ (by omega) (by omega)).trans h1⟩, ⟨st, (hf _ (by omega) (by omega)).trans h2⟩, ⟨a1, a2, a3, a4, a5, a6, a7, (hf _ (by omega) (by omega)).trans h3⟩⟩
theorem AsAt.fr {G G' : xHp} {x : Nat} (h : AsAt G x) (hf : ∀ a, x + 36 ≤ a → a < x + 50 → G' a = G a) : AsAt G' x := by
  obtain ⟨hk, rk, rt, ch, mo, tr, B, h1, h2, h3⟩ := h
  exact ⟨hk, rk, rt, ch, mo, tr, B, (hf _ (by omega) (by omega)).trans h1, h2.fr (fun a p q => hf a (by omega) (by omega)), h3.fr (fun a p q => hf a (by omega) (by omega))⟩
theorem JuAt.fr {G G' : xHp} {j : Nat} (h : JuAt G j) (hf : ∀ a, j ≤ a → a < j + 3 → G' a = G a) : JuAt G' j := by
  obtain ⟨wd, sk, h1⟩ := h
  exact ⟨wd, sk, h1.fr hf⟩
theorem TpAt.fr {G G' : xHp} {x : Nat} {tp : Nat → Nat} {tn : Nat} (h : TpAt G x tp tn) (hf : G' (x + 1) = G (x + 1)) : TpAt G' x tp tn := ⟨hf.trans h.1, h.2⟩
/-- rules by numbers -/
def rvI (rs : List (List Nat)) (v : Int32) : Option (List Nat) := if v = -1 then none else rs[thN v]?
def RuIx (ruf : Nat → Option Nat) (n : Nat) (v : Int32) (ru : Option Nat) : Prop := (v = -1 ∧ ru = none) ∨ ∃ i, i < n ∧ v = nI i ∧ ru = ruf i
def ClsE (G : xHp) (h x lo : Nat) (rs : List (List Nat)) (ruf ima : Nat → Option Nat) (c : xCo) (im : Nat → Option xCo) (ru : Option Nat) : Prop := x + 51 ≤ lo ∧ lo ≤ h ∧ rs.length ≤ 6 ∧ (∀ k, k < rs.length → ∃ ra sp, ruf k = some ra ∧ rs[k]? = some sp ∧ RuleAt G ra sp ∧ lo ≤ ra ∧ ra + 2 ≤ h ∧ ∀ i a, i < 4 → ima i = some a → ra + 2 ≤ a ∨ a + 17 ≤ ra) ∧ RuIx ruf rs.length c.2.2.1.2.1 ru ∧ (∀ i, i < 4 → (im i = none ∧ ima i = none) ∨ ∃ ck a rk, im i = some ck ∧ ima i = some a ∧ lo ≤ a ∧ a + 17 ≤ h ∧ StAt G a (x + 16) ck rk ∧ RuIx ruf rs.length ck.2.2.1.2.1 rk) ∧ ∀ i j a b, i < 4 → j < 4 → i ≠ j → ima i = some a → ima j = some b → a + 17 ≤ b ∨ b + 17 ≤ a
theorem ClsE.fr {G G' : xHp} {h x lo : Nat} {rs : List (List Nat)} {ruf ima : Nat → Option Nat} {c c' : xCo} {im : Nat → Option xCo} {ru ru' : Option Nat} (hE : ClsE G h x lo rs ruf ima c im ru) (hf : ∀ a, lo ≤ a → G' a = G a) (hr : RuIx ruf rs.length c'.2.2.1.2.1 ru') : ClsE G' h x lo rs ruf ima c' im ru' := by
  obtain ⟨e1, e2, e3, e4, e5, e6, e7⟩ := hE
  refine ⟨e1, e2, e3, fun k hk => ?_, hr, fun i hi => ?_, e7⟩
  · obtain ⟨ra, sp, q1, q2, q3, q4, q5, q6⟩ := e4 k hk
    exact ⟨ra, sp, q1, q2, q3.fr (hf _ q4) (hf _ (by omega)), q4, q5, q6⟩
  · rcases e6 i hi with q | ⟨ck, a, rk, q1, q2, q3, q4, q5, q6⟩
    · exact Or.inl q
    · exact Or.inr ⟨ck, a, rk, q1, q2, q3, q4, q5.fr (fun b h1 h2 => hf b (by omega)), q6⟩
theorem ClsE.rules {G : xHp} {h x lo tn : Nat} {tp : Nat → Nat} {rs : List (List Nat)} {ruf ima : Nat → Option Nat} {c : xCo} {im : Nat → Option xCo} {ru : Option Nat} (hE : ClsE G h x lo rs ruf ima c im ru) (hM : ClsM G x tp tn rs.length ruf ima c ru) : RulesAt G x rs ruf := by
  obtain ⟨e1, e2, e3, e4, e5, e6, e7⟩ := hE
  refine ⟨hM.2.2.2.2.1, e3, fun k hk => ?_⟩
  obtain ⟨ra, sp, q1, q2, q3, q4, q5, q6⟩ := e4 k hk
  exact Or.inr ⟨ra, sp, q1, q2, q3, by omega⟩
theorem thN_nI' {i : Nat} (h : i < 2 ^ 31) : thN (nI i) = i := thN_nI h
theorem ClsE.rule {G : xHp} {h x lo : Nat} {rs : List (List Nat)} {ruf ima : Nat → Option Nat} {c : xCo} {im : Nat → Option xCo} {ru : Option Nat} (hE : ClsE G h x lo rs ruf ima c im ru) : RuleIn G ru (rvI rs c.2.2.1.2.1) (x + 51) := by
  obtain ⟨e1, e2, e3, e4, e5, e6, e7⟩ := hE
  rcases e5 with ⟨q1, q2⟩ | ⟨i, q1, q2, q3⟩
  · exact Or.inl ⟨q2, if_pos q1⟩
  · obtain ⟨ra, sp, p1, p2, p3, p4, p5, p6⟩ := e4 i q1
    refine Or.inr ⟨ra, sp, q3.trans p1, ?_, p3, by omega⟩
    unfold rvI
    rw [q2, if_neg (nI_ne1 (by omega)), thN_nI (by omega)]; exact p2
def ClsAt (G : xHp) (h x lo : Nat) (tp : Nat → Nat) (tn : Nat) (rs : List (List Nat)) (c : xCo) (im : Nat → Option xCo) : Prop := ∃ ruf ima ru, ClsM G x tp tn rs.length ruf ima c ru ∧ ClsE G h x lo rs ruf ima c im ru
abbrev clQ (G : xHp) (h x lo : Nat) (v : Int32) (tp : Nat → Nat) (tn : Nat) (rs : List (List Nat)) (c : xCo) (im : Nat → Option xCo) : xPost := xEx (fun G' => ClsAt G' h x lo tp tn rs c im ∧ ∀ a, x + 51 ≤ a → a < lo → G' a = G a) (fun _ => some (.int v)) (fun _ => h) (fun G' => G')
/-- any ask leaves the rest as it was -/
theorem ClsM.trw {G : xHp} {x : Nat} {tp : Nat → Nat} {tn rc : Nat} {ruf ima : Nat → Option Nat} {c : xCo} {ru : Option Nat} (hM : ClsM G x tp tn rc ruf ima c ru) : ∃ hk rk rt ch mo, TrW G G x hk rk rt ch mo := by
  obtain ⟨m1, m2, m3, m4, m5, m6, m7, ⟨hk, rk, rt, ch, mo, tr, B, q1, q2, q3⟩, m9⟩ := hM
  exact ⟨hk, rk, rt, ch, mo, q1, q2, m6, FrS.rf⟩
theorem ClsM.off {G G' : xHp} {x : Nat} {tp : Nat → Nat} {tn rc : Nat} {ruf ima : Nat → Option Nat} {c : xCo} {ru : Option Nat} (hM : ClsM G x tp tn rc ruf ima c ru) (hj : JuAt G' (x + 16)) (ha : AsAt G' x) (hf : ∀ a, ¬ (a = x + 17 ∨ a = x + 18 ∨ (x + 36 ≤ a ∧ a < x + 50)) → G' a = G a) : ClsM G' x tp tn rc ruf ima c ru := by
  obtain ⟨m1, m2, m3, m4, m5, m6, m7, m8, m9⟩ := hM
  exact ⟨(hf _ (by omega)).trans m1, m2.fr (hf _ (by omega)), m3.fr (fun a h1 h2 => hf a (by omega)), m4.fr (fun a h1 h2 => hf a (by omega)), (hf _ (by omega)).trans m5, hj, m7.fr (fun a h1 h2 => hf a (by omega)), ha, (hf _ (by omega)).trans m9⟩
theorem ClsM.ask {G G' : xHp} {x : Nat} {tp : Nat → Nat} {tn rc : Nat} {ruf ima : Nat → Option Nat} {c : xCo} {ru : Option Nat} {hk : xHl} {rk : xRw} {rt : Option Nat} {ch mo : Int32} (hM : ClsM G x tp tn rc ruf ima c ru) (hT : TrW G G' x hk rk rt ch mo) : ClsM G' x tp tn rc ruf ima c ru := by
  obtain ⟨t1, t2, t3, t4⟩ := hT
  obtain ⟨hk0, rk0, rt0, ch0, mo0, tr, B, q1, q2, q3⟩ := hM.2.2.2.2.2.2.2.1
  exact hM.off t3 ⟨hk, rk, rt, ch, mo, tr, B, t1, t2, q3.fr (fun a h1 h2 => t4 a (by omega))⟩ (fun a ha => t4 a (by omega))
theorem Cls_ask {G G' : xHp} {h x lo : Nat} {tp : Nat → Nat} {tn : Nat} {rs : List (List Nat)} {ruf ima : Nat → Option Nat} {c : xCo} {im : Nat → Option xCo} {ru : Option Nat} {hk : xHl} {rk : xRw} {rt : Option Nat} {ch mo : Int32} (hM : ClsM G x tp tn rs.length ruf ima c ru) (hE : ClsE G h x lo rs ruf ima c im ru) (hT : TrW G G' x hk rk rt ch mo) : ClsAt G' h x lo tp tn rs c im ∧ ∀ a, x + 51 ≤ a → a < lo → G' a = G a :=
  ⟨⟨ruf, ima, ru, hM.ask hT, hE.fr (fun a ha => hT.2.2.2 a (by have := hE.1; omega)) hE.2.2.2.2.1⟩, fun a h1 h2 => hT.2.2.2 a (by omega)⟩
theorem Cls_same {G : xHp} {h x lo : Nat} {tp : Nat → Nat} {tn : Nat} {rs : List (List Nat)} {ruf ima : Nat → Option Nat} {c : xCo} {im : Nat → Option xCo} {ru : Option Nat} (hM : ClsM G x tp tn rs.length ruf ima c ru) (hE : ClsE G h x lo rs ruf ima c im ru) : ClsAt G h x lo tp tn rs c im ∧ ∀ a, x + 51 ≤ a → a < lo → G a = G a := ⟨⟨ruf, ima, ru, hM, hE⟩, fun _ _ _ => rfl⟩
/-- the state is another: nothing else is -/
theorem Cls_st {G G' : xHp} {h x lo : Nat} {tp : Nat → Nat} {tn : Nat} {rs : List (List Nat)} {ruf ima : Nat → Option Nat} {c c' : xCo} {im : Nat → Option xCo} {ru ru' : Option Nat} (hM : ClsM G x tp tn rs.length ruf ima c ru) (hE : ClsE G h x lo rs ruf ima c im ru) (hS : StAt G' (x + 19) (x + 16) c' ru') (hj : JuAt G' (x + 16)) (hf : ∀ a, ¬ ((x + 17 ≤ a ∧ a < x + 36)) → G' a = G a) (hr : RuIx ruf rs.length c'.2.2.1.2.1 ru') : ClsAt G' h x lo tp tn rs c' im ∧ ∀ a, x + 51 ≤ a → a < lo → G' a = G a := by
  obtain ⟨m1, m2, m3, m4, m5, m6, m7, m8, m9⟩ := hM
  refine ⟨⟨ruf, ima, ru', ⟨(hf _ (by omega)).trans m1, m2.fr (hf _ (by omega)), m3.fr (fun a h1 h2 => hf a (by omega)), m4.fr (fun a h1 h2 => hf a (by omega)), (hf _ (by omega)).trans m5, hj, hS, m8.fr (fun a h1 h2 => hf a (by omega)), (hf _ (by omega)).trans m9⟩, hE.fr (fun a ha => hf a (by have := hE.1; omega)) hr⟩, fun a h1 h2 => hf a (by omega)⟩
/-- the tape is another -/
theorem Cls_tp {G : xHp} {h x lo : Nat} {tp tp' : Nat → Nat} {tn tn' : Nat} {rs : List (List Nat)} {ruf ima : Nat → Option Nat} {c : xCo} {im : Nat → Option xCo} {ru : Option Nat} (hM : ClsM G x tp tn rs.length ruf ima c ru) (hE : ClsE G h x lo rs ruf ima c im ru) (h1 : ∀ j, tp' j < 256) (h2 : tn' ≤ 400) {G' : xHp} (e0 : G' x = some (clsO x tn' rs.length)) (e1 : G' (x + 1) = some (eI 0 400 (nF tp'))) (hf : ∀ a, a ≠ x → a ≠ x + 1 → G' a = G a) : ClsAt G' h x lo tp' tn' rs c im ∧ ∀ a, x + 51 ≤ a → a < lo → G' a = G a := by
  obtain ⟨m1, m2, m3, m4, m5, m6, m7, m8, m9⟩ := hM
  refine ⟨⟨ruf, ima, ru, ⟨e0, ⟨e1, h1, h2⟩, m3.fr (fun a p q => hf a (by omega) (by omega)), m4.fr (fun a p q => hf a (by omega) (by omega)), (hf _ (by omega) (by omega)).trans m5, m6.fr (fun a p q => hf a (by omega) (by omega)), m7.fr (fun a p q => hf a (by omega) (by omega)), m8.fr (fun a p q => hf a (by omega) (by omega)), (hf _ (by omega) (by omega)).trans m9⟩, hE.fr (fun a ha => hf a (by have := hE.1; omega) (by have := hE.1; omega)) hE.2.2.2.2.1⟩, fun a p q => hf a (by omega) (by omega)⟩
/-- a core as it may be -/
def RowX (hl : xHl) (r : xRw) : Prop := RowOk hl r ∧ (∃ m, m ≤ 999 ∧ r 0 = nI m) ∧ (∀ s, s < hl 0 2 → ∃ p, p ≤ 99 ∧ r (1 + s) = nI p) ∧ (1 ≤ hl 0 0 → ∀ q, hl 0 3 ≤ q → q < 4 → r (5 + q) = -1) ∧ (∀ t, hl 0 4 ≤ t → t < 7 → r (21 + t) = 0) ∧ ∀ q, q < 4 → ∃ k, k ≤ 60 ∧ r (13 + q) = nI k
def CoreOk (c : xCo) : Prop := HallOk c.1.1 ∧ RowX c.1.1 c.1.2 ∧ (∀ t, t < c.1.1 0 4 → c.1.1 5 t ≤ 299 ∧ 1 ≤ c.1.1 6 t) ∧ (∀ s, s < c.1.1 0 2 → c.1.1 2 s ≤ 9) ∧ BkOk c.1.1 c.2.1.1 c.2.1.2 ∧ (c.2.2.1.1 = true ↔ 1 ≤ c.1.1 0 0) ∧ (c.2.2.1.1 = false → c.1.1 0 1 = 0 ∧ c.1.1 0 2 = 0 ∧ c.1.1 0 3 = 0 ∧ c.1.1 0 4 = 0 ∧ c.2.1.2 = 0 ∧ c.2.2.2.2 = 0) ∧ c.2.2.1.2.2 < 2 ^ 31 ∧ c.2.2.2.2 ≤ 20 ∧ ∀ i, i < c.2.2.2.2 → RowX c.1.1 (c.2.2.2.1 i)
theorem CoreOk.hp {c : xCo} (h : CoreOk c) : ∀ s, s < c.1.1 0 2 → c.1.1 2 s < 200 := fun s hs => by have := h.2.2.2.1 s hs; omega
theorem CoreOk.row {c : xCo} (h : CoreOk c) : RowOk c.1.1 c.1.2 := h.2.1.1
