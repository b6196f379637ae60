/-! ===== the reference: acts ===== -/
theorem RefC.cong {A A' : Nat → Nat → Int32} (h1 : A' 31 = A 31) (h2 : A' 32 = A 32) (h3 : A' 33 = A 33) {w : Nat} : ∀ (cs : List (List Nat × List Nat)) (n e : Nat), RefC A w n e cs → RefC A' w n e cs
  | [], _, _, _ => True.intro
  | c :: cs, n, e, h => by
    obtain ⟨a1, a2, a3, a4⟩ := h
    exact ⟨by rw [h1]; exact a1, by rw [h2]; exact a2, by rw [h3]; exact a3, RefC.cong h1 h2 h3 cs _ _ a4⟩
theorem RefR.cong {A A' : Nat → Nat → Int32} (h : ∀ k, 28 ≤ k → k ≤ 33 → A' k = A k) {w : Nat} {cs : List (List Nat × List Nat)} (hR : RefR A w cs) : RefR A' w cs := by
  obtain ⟨a1, a2, a3, ⟨a4, a5⟩, a6⟩ := hR
  refine ⟨a1, a2, ?_, ⟨a4, fun j hj => ?_⟩, RefC.cong (h 31 (by decide) (by decide)) (h 32 (by decide) (by decide)) (h 33 (by decide) (by decide)) cs 0 0 a6⟩
  · rw [h 30 (by decide) (by decide)]; exact a3
  · rw [h 28 (by decide) (by decide), h 29 (by decide) (by decide)]; exact a5 j hj
theorem RvR.cong {A A' : Nat → Nat → Int32} {sc : Nat × Nat × Int32} {rv : Option (List Nat)} (h : ∀ k, 28 ≤ k → k ≤ 33 → A' k = A k) (hV : RvR A sc rv) : RvR A' sc rv := by
  rcases hV with e | ⟨w, cs, sp, e1, e2, e3, e4, e5⟩
  · exact Or.inl e
  · exact Or.inr ⟨w, cs, sp, e1, e2, e3.cong h, e4, e5⟩
theorem RvR.set {A : Nat → Nat → Int32} {sc : Nat × Nat × Int32} {rv : Option (List Nat)} {k : Nat} {f : Nat → Int32} (hV : RvR A sc rv) (hk : k < 28 ∨ 33 < k) : RvR (setA A k f) sc rv := hV.cong (fun i h1 h2 => setA_ne (by omega))
theorem in_60 (w : Int32) : decide ((1 : Int64) ≤ w.toInt64 ∧ w.toInt64 ≤ (60 : Int64)) = decide (¬ w < nI 1 ∧ ¬ nI 60 < w) := by
  apply decide_eq_decide.mpr
  have e1 : (1 : Int64) ≤ w.toInt64 ↔ 1 ≤ w.toInt := by rw [Int64.le_iff_toInt_le, Int32.toInt_toInt64]; rfl
  have e2 : w.toInt64 ≤ (60 : Int64) ↔ w.toInt ≤ 60 := by rw [Int64.le_iff_toInt_le, Int32.toInt_toInt64]; rfl
  have e3 : w < nI 1 ↔ w.toInt < 1 := by rw [Int32.lt_iff_toInt_lt]; rfl
  have e4 : nI 60 < w ↔ 60 < w.toInt := by rw [Int32.lt_iff_toInt_lt]; rfl
  rw [e1, e2, e3, e4]
  omega
