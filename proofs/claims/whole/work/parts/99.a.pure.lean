/-! ===== the reference anew ===== -/
def hl0 : xHl := fun i _ => if i = 3 then 999999 else 0
def r0 : xRw := fun _ => 0
def sc0 : Nat × Nat × Int32 := (0, 0, -1)
def A0 : Nat → Nat → Int32 := fun _ _ => 0
def Fz : Nat → Int32 := fun i => if i = 36 then nI 12 else 0
theorem hl0_lt : ∀ i j, hl0 i j < 1000000 := fun i j => by
  show (if i = 3 then 999999 else 0) < 1000000
  split <;> decide
theorem blk0 (o n j : Nat) : blk r0 o n j = 0 := by
  show (if j < n then (0 : Int32) else 0) = 0
  split <;> rfl
theorem ovr_z {k : Nat} (hk : k ≠ 1) : ovr A0 hl0 r0 sc0 k = fun _ => 0 := by
  funext j
  unfold ovr
  rw [if_neg hk]
  by_cases e2 : k = 2
  · rw [if_pos e2]; rfl
  rw [if_neg e2]
  by_cases e3 : k = 3
  · rw [if_pos e3]; exact blk0 _ _ _
  rw [if_neg e3]
  by_cases e4 : k = 4
  · rw [if_pos e4]; rfl
  rw [if_neg e4]
  by_cases e5 : k = 5
  · rw [if_pos e5]; exact blk0 _ _ _
  rw [if_neg e5]
  by_cases e6 : k = 6
  · rw [if_pos e6]; exact blk0 _ _ _
  rw [if_neg e6]
  by_cases e7 : k = 7
  · rw [if_pos e7]; exact blk0 _ _ _
  rw [if_neg e7]
  by_cases e8 : k = 8
  · rw [if_pos e8]; exact blk0 _ _ _
  rw [if_neg e8]
  by_cases e9 : k = 9
  · rw [if_pos e9]; rfl
  rw [if_neg e9]
  by_cases e10 : k = 10
  · rw [if_pos e10]; rfl
  rw [if_neg e10]
  by_cases e11 : k = 11
  · rw [if_pos e11]; rfl
  rw [if_neg e11]
  by_cases e12 : k = 12
  · rw [if_pos e12]; rfl
  rw [if_neg e12]
  by_cases e13 : k = 13
  · rw [if_pos e13]; exact blk0 _ _ _
  rw [if_neg e13]
  by_cases e14 : k = 14
  · rw [if_pos e14]; exact blk0 _ _ _
  rw [if_neg e14]
  by_cases e18 : k = 18
  · rw [if_pos e18]; rfl
  rw [if_neg e18]
  rfl
def IW (G0 G : xHp) (y k : Nat) (fs : List Value) : Prop := G y = some (eO 12 fs) ∧ (∀ i, 1 ≤ i → i ≤ k → G (y + i) = some (mcell i (ovr A0 hl0 r0 sc0) (fun _ => 0) (fun _ => 0))) ∧ ∀ a, ¬ (y ≤ a ∧ a < y + 46) → G a = G0 a
theorem IW.ad {G0 G : xHp} {y k : Nat} {fs fs' : List Value} {c : xE} (h : IW G0 G y k fs) (h45 : k + 1 ≤ 45) (hc : c = mcell (k + 1) (ovr A0 hl0 r0 sc0) (fun _ => 0) (fun _ => 0)) : IW G0 (xup (xup G (y + (k + 1)) c) y (eO 12 fs')) y (k + 1) fs' := by
  refine ⟨xup_eq, fun i h1 h2 => ?_, fun a ha => ?_⟩
  · rw [xup_ne (by omega)]
    by_cases e : i = k + 1
    · subst e; rw [xup_eq, hc]
    · rw [xup_ne (by omega)]; exact h.2.1 i h1 (by omega)
  · rw [xup_ne (by omega), xup_ne (by omega)]; exact h.2.2 a ha
theorem IW.st {G0 G : xHp} {y k t n : Nat} {fs fs' : List Value} (h : IW G0 G y k fs) (h45 : k + 1 ≤ 45 ∧ k + 1 ≠ 1 ∧ k + 1 ≠ 35 ∧ k + 1 ≠ 36) (ht : t = mty (k + 1)) (hn : n = mln (k + 1)) : IW G0 (xup (xup G (y + (k + 1)) (eI t n (fun _ => 0))) y (eO 12 fs')) y (k + 1) fs' := by
  refine h.ad h45.1 ?_
  unfold mcell
  rw [if_neg h45.2.2.1, if_neg h45.2.2.2, ovr_z h45.2.1, ht, hn]
theorem IW.fl {G0 G : xHp} {y k : Nat} {fs fs' : List Value} (h : IW G0 G y k fs) : IW G0 (xup G y (eO 12 fs')) y k fs' := by
  refine ⟨xup_eq, fun i h1 h2 => ?_, fun a ha => ?_⟩
  · rw [xup_ne (by omega)]; exact h.2.1 i h1 h2
  · rw [xup_ne (by omega)]; exact h.2.2 a ha
theorem IW.md {G0 G : xHp} {y : Nat} {fs : List Value} (h : IW G0 G y 45 fs) (hf : eO 12 fs = modO y Fz) : MW G0 G y hl0 r0 sc0 A0 Fz (fun _ => 0) (fun _ => 0) := ⟨by rw [← hf]; exact h.1, h.2.1, h.2.2, hl0_lt⟩
theorem scal_0 : ∀ j, j < 9 → upd (upd (upd (upd (upd (upd (upd (upd (upd (fun _ => 0) 0 (nI 0)) 1 (nI 0)) 2 (nI 0)) 3 (nI 0)) 4 (nI 0)) 5 (nI 0)) 6 (nI 0)) 7 (nI 0)) 8 (-1) j = scal hl0 r0 sc0 j := by
  intro j hj
  obtain e | e | e | e | e | e | e | e | e : j = 0 ∨ j = 1 ∨ j = 2 ∨ j = 3 ∨ j = 4 ∨ j = 5 ∨ j = 6 ∨ j = 7 ∨ j = 8 := by omega
  all_goals (subst e; rfl)
