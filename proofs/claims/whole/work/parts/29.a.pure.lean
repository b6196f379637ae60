/-! ===== whom to match with what ===== -/
abbrev xB : Type := Int32 × Int32 × (Nat → Int32)
def keepB (B : xB) (w mi : Int32) (tr : Nat → Int32) : xB := if B.1 < w ∨ (w = B.1 ∧ mi < B.2.1) then (w, mi, tr) else B
def itF {α : Type} (f : Nat → α → α) : Nat → α → α
  | 0, s => s
  | n + 1, s => f n (itF f n s)
def dfsM (hl : xHl) : Nat → xRw → Nat → Int32 → Int32 → (Nat → Int32) × xB → (Nat → Int32) × xB
  | 0, _, _, w, mi, S => (S.1, keepB S.2 w mi S.1)
  | n + 1, r, q, w, mi, S => if r (5 + q) = -1 then itF (fun t S => if canT hl r q t = true then dfsM hl n (beginR hl r q t) (q + 1) (w + nI (hl 6 t)) (mi + nI (effS hl q t)) (upd S.1 q (nI t), S.2) else S) (hl 0 4) (dfsM hl n r (q + 1) w mi (upd S.1 q (-1), S.2)) else dfsM hl n r (q + 1) w mi (upd S.1 q (-1), S.2)
/-- rows alike but for the minutes to go -/
def Off9 (r r' : xRw) : Prop := ∀ j, (j < 9 ∨ 13 ≤ j) → r' j = r j
theorem Off9.rf {r : xRw} : Off9 r r := fun _ _ => rfl
theorem Off9.can {r r' : xRw} (h : Off9 r r') (hl : xHl) (q t : Nat) (hs : hl 4 t < 4) : canT hl r' q t = canT hl r q t := by
  unfold canT
  rw [h (21 + t) (by omega), h (1 + hl 4 t) (by omega)]
theorem Off9.begin {r r' : xRw} (h : Off9 r r') (hl : xHl) {q t : Nat} (hq : q < 4) (hs : hl 4 t < 4) : Off9 (beginR hl r q t) (beginR hl r' q t) := by
  intro j hj
  unfold beginR upd
  by_cases e1 : j = 9 + q
  · omega
  · rw [if_neg e1, if_neg e1, h (1 + hl 4 t) (by omega), h j hj]
def unR (hl : xHl) (r : xRw) (q t : Nat) : xRw := upd (layR r q t) (1 + hl 4 t) (layR r q t (1 + hl 4 t) + nI (hl 7 t))
theorem Off9.undo {hl : xHl} {r r' : xRw} {q t : Nat} (h : Off9 (beginR hl r q t) r') (hq : q < 4) (ht : t < 7) (hs : hl 4 t < 4) (hf : r (5 + q) = -1) (hc : canT hl r q t = true) : Off9 r (unR hl r' q t) := by
  obtain ⟨c1, -, -⟩ := of_decide_eq_true hc
  intro j hj
  unfold unR
  by_cases e : j = 1 + hl 4 t
  · subst e
    rw [upd_at]
    unfold layR
    rw [upd_off (by omega), upd_off (by omega), upd_off (by omega), h (1 + hl 4 t) (by omega)]
    unfold beginR
    rw [upd_off (by omega), upd_off (by omega), upd_off (by omega), upd_at, Int32.sub_add_cancel]
  · rw [upd_off e]
    unfold layR
    rw [upd_off (by omega)]
    by_cases e5 : j = 5 + q
    · subst e5; rw [upd_at, hf]
    · rw [upd_off e5]
      by_cases e21 : j = 21 + t
      · subst e21; rw [upd_at, c1]; rfl
      · rw [upd_off e21, h j hj]
        unfold beginR
        rw [upd_off (by omega), upd_off e5, upd_off e21, upd_off e]
def MtW (G0 G : xHp) (x : Nat) (hk : xHl) (rk : xRw) (rt : Option Nat) (tr : Nat → Int32) (B : xB) : Prop := DayAt G (x + 37) hk rk (x + 16) rt ∧ G (x + 47) = some (eO 6 [.ref (x + 37), .ref (x + 48), .ref (x + 49), .int B.1, .int B.2.1]) ∧ G (x + 48) = some (eI 0 4 tr) ∧ G (x + 49) = some (eI 0 4 B.2.2) ∧ ∀ a, ¬ (x + 46 ≤ a ∧ a < x + 50) → G a = G0 a
section MTL
variable {G0 G : xHp} {x : Nat} {hk : xHl} {rk : xRw} {rt : Option Nat} {tr : Nat → Int32} {B : xB}
theorem MtW.keep (h : MtW G0 G x hk rk rt tr B) (w mi : Int32) : MtW G0 (xup (xup G (x + 47) (eO 6 [.ref (x + 37), .ref (x + 48), .ref (x + 49), .int w, .int mi])) (x + 49) (eI 0 4 tr)) x hk rk rt tr (w, mi, tr) := by
  obtain ⟨h1, h2, h3, h4, h5⟩ := h
  exact ⟨(h1.off (by omega)).off (by omega), xup_of (by omega) xup_eq, xup_of (by omega) (xup_of (by omega) h3), xup_eq, fun a ha => by rw [xup_ne (by omega), xup_ne (by omega)]; exact h5 a ha⟩
theorem MtW.tried (h : MtW G0 G x hk rk rt tr B) (tr' : Nat → Int32) : MtW G0 (xup G (x + 48) (eI 0 4 tr')) x hk rk rt tr' B := by
  obtain ⟨h1, h2, h3, h4, h5⟩ := h
  exact ⟨h1.off (by omega), xup_of (by omega) h2, xup_eq, xup_of (by omega) h4, fun a ha => by rw [xup_ne (by omega)]; exact h5 a ha⟩
theorem MtW.row (h : MtW G0 G x hk rk rt tr B) (r' : xRw) : MtW G0 (xup G (x + 46) (eI 0 35 r')) x hk r' rt tr B := by
  obtain ⟨h1, h2, h3, h4, h5⟩ := h
  exact ⟨h1.row r', xup_of (by omega) h2, xup_of (by omega) h3, xup_of (by omega) h4, fun a ha => by rw [xup_ne (by omega)]; exact h5 a ha⟩
theorem MtW.worth (h : MtW G0 G x hk rk rt tr B) (w : Int32) : MtW G0 (xup G (x + 47) (eO 6 [.ref (x + 37), .ref (x + 48), .ref (x + 49), .int w, .int B.2.1])) x hk rk rt tr (w, B.2.1, B.2.2) := by
  obtain ⟨h1, h2, h3, h4, h5⟩ := h
  exact ⟨h1.off (by omega), xup_eq, xup_of (by omega) h3, xup_of (by omega) h4, fun a ha => by rw [xup_ne (by omega)]; exact h5 a ha⟩
theorem MtW.begin {K : xG} {h q t : Nat} (hM : MtW G0 G x hk rk rt tr B) (hq : q < 4) (ht : t < 7) (hs : hk 4 t < 4) : xCall K mX2_begin 1 0 0 [.ref (x + 37), .int (nI q), .int (nI t)] h G (xRet none h (xup G (x + 46) (eI 0 35 (beginR hk rk q t)))) := Day_begin hM.1 hq ht hs
theorem MtW.lay {K : xG} {h q t : Nat} (hM : MtW G0 G x hk rk rt tr B) (hq : q < 4) (ht : t < 7) (htn : t < hk 0 4) (hm : rk (5 + q) = nI t) : xCall K mX2_layDown 1 0 0 [.ref (x + 37), .int (nI q)] h G (xRet (some (.int (nI t))) h (xup G (x + 46) (eI 0 35 (layR rk q t)))) := Day_layDown hM.1 hq ht htn hm
end MTL
