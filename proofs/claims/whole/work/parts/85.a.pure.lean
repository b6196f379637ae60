/-! ===== the reference's tests: a fact; how a test goes ===== -/
section FCL
variable {tp : Nat → Nat} {n : Nat} {os : List Nat} {s : xPS}
theorem fc_not (h : isW tp n s 5 = true) (hd : dpt os < 10) : fcP tp n os s = (false, 9 :: os, nextP tp n s) := by unfold fcP; rw [if_pos h, if_neg (by omega)]
theorem fc_br (h : isW tp n s 5 = false) (h2 : isS tp n s.1 s.2.1 91 = true) (hd : dpt os < 10) : fcP tp n os s = (false, 12 :: os, nextP tp n s) := by unfold fcP; rw [if_neg (by rw [h]; decide), if_pos h2, if_neg (by omega)]
theorem fc_deep (h : isW tp n s 5 = true ∨ isS tp n s.1 s.2.1 91 = true) (hd : 10 ≤ dpt os) : fcP tp n os s = (false, os, failP tp n s 2) := by
  unfold fcP
  by_cases e : isW tp n s 5 = true
  · rw [if_pos e, if_pos hd]
  · rw [if_neg e, if_pos (h.resolve_left e), if_pos hd]
theorem fc_cmp (h : isW tp n s 5 = false) (h2 : isS tp n s.1 s.2.1 91 = false) : fcP tp n os s = (true, os, cmpP tp n s) := by unfold fcP; rw [if_neg (by rw [h]; decide), if_neg (by rw [h2]; decide)]
end FCL
theorem isS_sg {tp : Nat → Nat} {n p c : Nat} {s : xPS} (h0 : s.1 = 0) (hp : p = skP tp n s.2.1) (hlt : ∀ j, tp j < 256) (hc : c = 91 ∨ c = 93 ∨ c = 59) : isS tp n s.1 s.2.1 c = true ↔ sgV tp n p = nI c := by
  constructor
  · intro q
    obtain ⟨q1, q2, q3⟩ := of_decide_eq_true q
    rw [← hp] at q2 q3
    have h5 : p < n := Nat.lt_of_not_le (fun z => by rw [kd_end z] at q2; omega)
    have h6 := hlt p
    rw [sg_s h5 q2] at q3
    refine sgV_i h5 ?_
    split at q3 <;> omega
  · intro q
    obtain ⟨q1, q2⟩ := sgV_c (by omega) hlt q
    obtain ⟨q3, q4⟩ := sg_tok q1 q2 (by omega) (by omega)
    exact decide_eq_true ⟨h0, by rw [← hp]; exact q3, by rw [← hp]; exact (q4 (by omega) (by omega)).1⟩
theorem sg_at {tp : Nat → Nat} {n p c : Nat} (hlt : ∀ j, tp j < 256) (hc : c = 91 ∨ c = 93 ∨ c = 59) (h : sgV tp n p = nI c) : p < n ∧ atA tp n p = p + 1 := by
  obtain ⟨q1, q2⟩ := sgV_c (by omega) hlt h
  obtain ⟨q3, q4⟩ := sg_tok q1 q2 (by omega) (by omega)
  exact ⟨q1, (q4 (by omega) (by omega)).2⟩
theorem st_at {tp : Nat → Nat} {n p i m : Nat} (hi : i < 26) (hm : (xs_byt i).length = m) (h : stB tp n p i = true) : p + m ≤ n ∧ atA tp n p = p + m := by
  have h1 := st_len h
  have h2 := at_run (st_kd hi h)
  have h3 := runF_le (isLw tp) (n - p) p
  rw [hm] at h1
  exact ⟨by omega, by rw [h2.2.2]; omega⟩
theorem xl_19 : (xs_byt 19).length = 3 := by decide +kernel
theorem xl_20 : (xs_byt 20).length = 3 := by decide +kernel
theorem xl_21 : (xs_byt 21).length = 2 := by decide +kernel
theorem xl_24 : (xs_byt 24).length = 4 := by decide +kernel
theorem xl_25 : (xs_byt 25).length = 2 := by decide +kernel
theorem isW_at {tp : Nat → Nat} {n p i j : Nat} {s : xPS} (hi : i < 26) (h0 : i ≠ 0) (h6 : i ≠ 6) (he : wl j = wl i) (hf : s.1 = 0) (hp : p = skP tp n s.2.1) : isW tp n s i = stB tp n p j := by
  rw [isW_st hi h0 h6 hf, hp]; exact (stB_e he).symm
theorem st_2 {tp : Nat → Nat} {n p : Nat} (h1 : stB tp n p 20 = true) (h2 : stB tp n p 21 = true) : False := by
  have a1 := st_len h1
  have a2 := st_len h2
  rw [xl_20] at a1
  rw [xl_21] at a2
  omega
def anA (os : List Nat) (s : xPS) : List Nat × xPS := anP 10 (anP 9 os s).1 (anP 9 os s).2
def anO (os : List Nat) (s : xPS) : List Nat × xPS := anP 11 (anA os s).1 (anA os s).2
def tsM (tp : Nat → Nat) (n : Nat) : Nat → Bool → List Nat → xPS → List Nat × xPS
  | 0, _, os, s => (os, s)
  | j + 1, w, os, s => if s.1 ≠ 0 then (os, s) else if w = true then tsM tp n j (!(fcP tp n os s).1) (fcP tp n os s).2.1 (fcP tp n os s).2.2
    else if isW tp n s 3 = true then tsM tp n j true (10 :: (anA os s).1) (nextP tp n (anA os s).2)
    else if isW tp n s 4 = true then tsM tp n j true (11 :: (anO os s).1) (nextP tp n (anO os s).2)
    else if (anO os s).1.headD 0 = 12 then tsM tp n j false (anO os s).1.tail (clsP tp n (anO os s).2) else anO os s
section TSL
variable {tp : Nat → Nat} {n j : Nat} {os : List Nat} {s : xPS}
theorem ts_f (h : s.1 ≠ 0) : ∀ {j : Nat} {w : Bool}, tsM tp n j w os s = (os, s)
  | 0, w => rfl
  | j + 1, w => by simp only [tsM]; rw [if_pos h]
theorem ts_w (h : s.1 = 0) : tsM tp n (j + 1) true os s = tsM tp n j (!(fcP tp n os s).1) (fcP tp n os s).2.1 (fcP tp n os s).2.2 := by
  simp only [tsM]; rw [if_neg (fun q => q h), if_pos trivial]
theorem ts_a (h : s.1 = 0) (h1 : isW tp n s 3 = true) : tsM tp n (j + 1) false os s = tsM tp n j true (10 :: (anA os s).1) (nextP tp n (anA os s).2) := by
  simp only [tsM]; rw [if_neg (fun q => q h), if_neg (by decide), if_pos h1]
theorem ts_o (h : s.1 = 0) (h1 : isW tp n s 3 = false) (h2 : isW tp n s 4 = true) : tsM tp n (j + 1) false os s = tsM tp n j true (11 :: (anO os s).1) (nextP tp n (anO os s).2) := by
  simp only [tsM]; rw [if_neg (fun q => q h), if_neg (by decide), if_neg (by rw [h1]; decide), if_pos h2]
theorem ts_b {os' : List Nat} (h : s.1 = 0) (h1 : isW tp n s 3 = false) (h2 : isW tp n s 4 = false) (h3 : (anO os s).1 = 12 :: os') : tsM tp n (j + 1) false os s = tsM tp n j false os' (clsP tp n (anO os s).2) := by
  simp only [tsM]; rw [if_neg (fun q => q h), if_neg (by decide), if_neg (by rw [h1]; decide), if_neg (by rw [h2]; decide), h3]; exact if_pos rfl
theorem ts_e (h : s.1 = 0) (h1 : isW tp n s 3 = false) (h2 : isW tp n s 4 = false) (h3 : ∀ os', (anO os s).1 ≠ 12 :: os') : tsM tp n (j + 1) false os s = anO os s := by
  simp only [tsM]; rw [if_neg (fun q => q h), if_neg (by decide), if_neg (by rw [h1]; decide), if_neg (by rw [h2]; decide), if_neg]
  intro hq
  rcases hc : (anO os s).1 with _ | ⟨o, os'⟩
  · rw [hc] at hq; exact absurd hq (by decide)
  · rw [hc] at hq
    have hq2 : o = 12 := hq
    exact h3 os' (by rw [hc, hq2])
end TSL
theorem an_mem {k : Nat} : ∀ {os : List Nat} {s : xPS} {o : Nat}, o ∈ (anP k os s).1 → o ∈ os
  | [], s, o, h => h
  | a :: os, s, o, h => by
    simp only [anP] at h
    split at h
    · exact List.mem_cons_of_mem a (an_mem h)
    · exact h
theorem topV_12 {os : List Nat} (h : topV os = nI 12) (ho : ∀ o ∈ os, o < 13) : ∃ os', os = 12 :: os' := by
  cases os with
  | nil => exact absurd h (by decide)
  | cons a os =>
    have h1 := ho a (by simp)
    have h2 : a = 12 := (nI_eq (by omega) (by decide)).mp h
    exact ⟨os, by rw [h2]⟩
theorem topV_n {os : List Nat} (h : ¬ topV os = nI 12) : ∀ os', os ≠ 12 :: os' := fun os' q => h (by rw [q]; rfl)
theorem Hb.p3 {tp : Nat → Nat} {n c m : Nat} {s : xPS} (h : Hb n c s) (hm : s.1 = 0 → s.2.1 + m ≤ (nextP tp n s).2.1) : Hb n (c + m) (nextP tp n s) := fun q => by
  obtain ⟨h1, h2, h3⟩ := h q
  have h4 := Mo.next (tp := tp) (n := n) (s := s) q
  have h5 := hm q
  exact ⟨h4.2.2 h1, h2, by show 3 * s.2.2.2.length + (c + m) ≤ 6 * s.2.2.1 + (nextP tp n s).2.1 + 30; omega⟩
