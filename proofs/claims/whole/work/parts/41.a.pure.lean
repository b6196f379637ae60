/-! ===== the class's acts ===== -/
def pushC (c : xCo) : xCo := (c.1, c.2.1, c.2.2.1, (pushL c.1.2 c.2.2.2.1, min (c.2.2.2.2 + 1) 20))
def rowC (c : xCo) (r : xRw) : xCo := ((c.1.1, r), c.2)
theorem StAt.row {G : xHp} {b jd : Nat} {c : xCo} {ru : Option Nat} (h : StAt G b jd c ru) (r' : xRw) : StAt (xup G (b + 16) (eI 0 35 r')) b jd (rowC c r') ru := by
  obtain ⟨rows, nx, fi, fs, al, h1, h2, h3, h4, h5⟩ := h
  exact ⟨rows, nx, fi, fs, al, xup_of (by omega) h1, h2.off (by omega), xup_of (by omega) h3, h4.row r', h5⟩
theorem StAt.off {G : xHp} {b jd : Nat} {c : xCo} {ru : Option Nat} (h : StAt G b jd c ru) {a : Nat} {e : xE} (ha : a < b ∨ b + 17 ≤ a) : StAt (xup G a e) b jd c ru := h.fr (fun q h1 h2 => xup_ne (by omega))
theorem StAt.day {G : xHp} {b jd : Nat} {c : xCo} {ru : Option Nat} (h : StAt G b jd c ru) : DayAt G (b + 7) c.1.1 c.1.2 jd ru := by
  obtain ⟨rows, nx, fi, fs, al, h1, h2, h3, h4, h5⟩ := h
  exact h4
theorem ClsE.ri {G G' : xHp} {h x lo : Nat} {rs : List (List Nat)} {ruf ima : Nat → Option Nat} {c : xCo} {im : Nat → Option xCo} {ru : Option Nat} (hE : ClsE G h x lo rs ruf ima c im ru) (hf : ∀ a, x + 51 ≤ a → G' a = G a) : RuleIn G' ru (rvI rs c.2.2.1.2.1) (x + 51) := hE.rule.fr hf
def minuteC (rs : List (List Nat)) (c : xCo) : xCo := rowC (pushC c) (goMin c.1.1 (rvI rs c.2.2.1.2.1) c.1.2).1
def minuteS (rs : List (List Nat)) (c : xCo) : Int32 × xCo := if c.2.2.1.1 = true ∧ c.1.2 0 < nI 999 then ((goMin c.1.1 (rvI rs c.2.2.1.2.1) c.1.2).2, minuteC rs c) else (-1, c)
def giveS (c : xCo) (v w : Int32) : Int32 × xCo := if inR v (c.1.1 0 3) = true ∧ inR w (c.1.1 0 4) = true ∧ c.1.2 (5 + thN v) = -1 ∧ canT c.1.1 c.1.2 (thN v) (thN w) = true then (nI (effS c.1.1 (thN v) (thN w)), rowC (pushC c) (beginR c.1.1 c.1.2 (thN v) (thN w))) else (-1, c)
def putDownS (c : xCo) (v : Int32) : Int32 × xCo := if inR v (c.1.1 0 3) = true ∧ ¬ c.1.2 (5 + thN v) = -1 then (c.1.2 (5 + thN v), rowC (pushC c) (layR c.1.2 (thN v) (thN (c.1.2 (5 + thN v))))) else (-1, c)
def bringS (c : xCo) (v : Int32) : Int32 × xCo := if inR v (c.1.1 0 2) = true ∧ c.1.2 (1 + thN v) < nI 99 then (c.1.2 (1 + thN v) + nI 1, rowC (pushC c) (upd c.1.2 (1 + thN v) (c.1.2 (1 + thN v) + nI 1))) else (-1, c)
def coffeeS (c : xCo) (v w : Int32) : Int32 × xCo := if inR v (c.1.1 0 3) = true ∧ ¬ w < nI 1 ∧ ¬ nI 60 < w ∧ c.1.2 (5 + thN v) = -1 ∧ ¬ 0 < c.1.2 (13 + thN v) then (nI (cntF (fun q => decide (0 < upd c.1.2 (13 + thN v) w (13 + q))) (c.1.1 0 3)), rowC (pushC c) (upd c.1.2 (13 + thN v) w)) else (-1, c)
def undoS (c : xCo) : Int32 × xCo := if c.2.2.2.2 = 0 then (-2, c) else (nI (c.2.2.2.2 - 1), ((c.1.1, c.2.2.2.1 0), c.2.1, c.2.2.1, (popL c.2.2.2.1, c.2.2.2.2 - 1)))
def forceS (rc : Nat) (c : xCo) (v : Int32) : Int32 × xCo := if v = -1 ∨ inR v rc = true then (c.2.2.1.2.1, (c.1, c.2.1, (c.2.2.1.1, v, c.2.2.1.2.2), c.2.2.2)) else (-2, c)
def bkAdd (bk : Nat → Nat → Nat) (bn n t w : Nat) : Nat → Nat → Nat := fun i j => if j = bn then (if i = 0 then n else if i = 1 then t else w) else bk i j
def bookS (c : xCo) (n t w : Int32) : Int32 × xCo := if n = -1 then (nI 0, (c.1, (c.2.1.1, 0), c.2.2)) else if inR n 400 = true ∧ inR t (c.1.1 0 4) = true ∧ inR w 5 = true ∧ c.2.1.2 < 10 then (nI (c.2.1.2 + 1), (c.1, (bkAdd c.2.1.1 c.2.1.2 (thN n) (thN t) (thN w), c.2.1.2 + 1), c.2.2)) else (-2, c)
/-- behind an act: the row is another -/
theorem Cls_act {G G1 G' : xHp} {h x lo : Nat} {tp : Nat → Nat} {tn : Nat} {rs : List (List Nat)} {ruf ima : Nat → Option Nat} {c c' : xCo} {im : Nat → Option xCo} {ru : Option Nat} {r' : xRw} (hM : ClsM G x tp tn rs.length ruf ima c ru) (hE : ClsE G h x lo rs ruf ima c im ru) (h1 : StAt G1 (x + 19) (x + 16) c' ru) (h2 : Fr G G1 (x + 19) 17) (hG : G' = xup G1 (x + 35) (eI 0 35 r')) (hc : c'.2.2.1.2.1 = c.2.2.1.2.1) : ClsAt G' h x lo tp tn rs (rowC c' r') im ∧ ∀ a, x + 51 ≤ a → a < lo → G' a = G a := by
  subst hG
  exact Cls_st hM hE (h1.row r') (hM.2.2.2.2.2.1.fr (fun a p q => by rw [xup_ne (by omega)]; exact h2 a (by omega))) (fun a ha => by rw [xup_ne (by omega)]; exact h2 a (by omega)) (by show RuIx ruf rs.length c'.2.2.1.2.1 ru; rw [hc]; exact hE.2.2.2.2.1)
theorem pair1 {α β : Type} {P : Prop} [Decidable P] {a b : α × β} (h : P) : (if P then a else b) = a := if_pos h
