/-! ===== a rule read whole; made ===== -/
section RCL
variable {tp : Nat → Nat} {n bf : Nat} {s : xPS}
theorem rc_0 (h : isW tp n s 1 = false) : rcP tp n s bf = failP tp n s 0 := if_pos h
theorem rc_1 (h : isW tp n s 1 = true) (hb : 12 ≤ bf) : rcP tp n s bf = failP tp n s 4 := by unfold rcP; rw [if_neg (by rw [h]; decide), if_pos hb]
theorem rc_2 (h : isW tp n s 1 = true) (hb : bf < 12) (hi : isW tp n (sumL tp n 400 none none (nextP tp n s)) 2 = true) : rcP tp n s bf = putP (rdP tp n 802 1 0 (nextP tp n (sumL tp n 400 none none (nextP tp n s)))) 16 0 := by unfold rcP; rw [if_neg (by rw [h]; decide), if_neg (by omega), if_pos hi]
theorem rc_3 (h : isW tp n s 1 = true) (hb : bf < 12) (hi : isW tp n (sumL tp n 400 none none (nextP tp n s)) 2 = false) : rcP tp n s bf = putP (sumL tp n 400 none none (nextP tp n s)) 15 0 := by unfold rcP; rw [if_neg (by rw [h]; decide), if_neg (by omega), if_neg (by rw [hi]; decide)]
end RCL
theorem Mo.rc {tp : Nat → Nat} {n bf : Nat} {s : xPS} : Mo n s (rcP tp n s bf) := by
  unfold rcP
  split
  · exact Mo.fail
  · split
    · exact Mo.fail
    · split
      · exact (((Mo.next.tr Mo.sum).tr Mo.next).tr Mo.rd).tr Mo.put
      · exact (Mo.next.tr Mo.sum).tr Mo.put
