/-! ===== the start: classes, arrays, String constants, statics ===== -/
theorem q_kn {s : State} {args : Array Value} (hts : ∀ w ∈ xW, w.before args s = true) : ∃ (dC : Nat → ClassId) (dI : Nat → Nat → Nat), ∀ (k : Nat) (q : vw_C), vwCl[k]? = some q → u_Kn s q.1 q.2.1 q.2.2 (dC k) (dI k) := by
  obtain ⟨c0, i0, h0⟩ := u_known hts xcl_X0.2.1 (hts _ xin_X0)
  obtain ⟨c1, i1, h1⟩ := u_known hts xcl_X1.2.1 (hts _ xin_X1)
  obtain ⟨c2, i2, h2⟩ := u_known hts xcl_X2.2.1 (hts _ xin_X2)
  obtain ⟨c3, i3, h3⟩ := u_known hts xcl_X3.2.1 (hts _ xin_X3)
  obtain ⟨c4, i4, h4⟩ := u_known hts xcl_X4.2.1 (hts _ xin_X4)
  obtain ⟨c5, i5, h5⟩ := u_known hts xcl_X5.2.1 (hts _ xin_X5)
  obtain ⟨c6, i6, h6⟩ := u_known hts xcl_X6.2.1 (hts _ xin_X6)
  obtain ⟨c7, i7, h7⟩ := u_known hts xcl_X7.2.1 (hts _ xin_X7)
  obtain ⟨c8, i8, h8⟩ := u_known hts xcl_X8.2.1 (hts _ xin_X8)
  obtain ⟨c9, i9, h9⟩ := u_known hts xcl_X9.2.1 (hts _ xin_X9)
  obtain ⟨c10, i10, h10⟩ := u_known hts xcl_X10.2.1 (hts _ xin_X10)
  obtain ⟨c11, i11, h11⟩ := u_known hts xcl_X11.2.1 (hts _ xin_X11)
  obtain ⟨c12, i12, h12⟩ := u_known hts xcl_X12.2.1 (hts _ xin_X12)
  have hz : ∀ k : Nat, ∃ z : ClassId × (Nat → Nat), ∀ q : vw_C, vwCl[k]? = some q → u_Kn s q.1 q.2.1 q.2.2 z.1 z.2 := by
    intro k
    match k with
    | 0 => exact ⟨(c0, i0), fun q hq => by cases hq; exact h0⟩
    | 1 => exact ⟨(c1, i1), fun q hq => by cases hq; exact h1⟩
    | 2 => exact ⟨(c2, i2), fun q hq => by cases hq; exact h2⟩
    | 3 => exact ⟨(c3, i3), fun q hq => by cases hq; exact h3⟩
    | 4 => exact ⟨(c4, i4), fun q hq => by cases hq; exact h4⟩
    | 5 => exact ⟨(c5, i5), fun q hq => by cases hq; exact h5⟩
    | 6 => exact ⟨(c6, i6), fun q hq => by cases hq; exact h6⟩
    | 7 => exact ⟨(c7, i7), fun q hq => by cases hq; exact h7⟩
    | 8 => exact ⟨(c8, i8), fun q hq => by cases hq; exact h8⟩
    | 9 => exact ⟨(c9, i9), fun q hq => by cases hq; exact h9⟩
    | 10 => exact ⟨(c10, i10), fun q hq => by cases hq; exact h10⟩
    | 11 => exact ⟨(c11, i11), fun q hq => by cases hq; exact h11⟩
    | 12 => exact ⟨(c12, i12), fun q hq => by cases hq; exact h12⟩
    | k + 13 => exact ⟨(c0, i0), fun q hq => by simp [vwCl] at hq⟩
  obtain ⟨z, hz⟩ := Classical.axiomOfChoice hz
  exact ⟨fun k => (z k).1, fun k => (z k).2, fun k q hq => hz k q hq⟩
theorem q_ap {s : State} {args : Array Value} {ty : FieldType} (hp : ∀ C, ty ≠ .object C) (h : (Cond.arrayClass ty).before args s = true) : ∃ cA, ArrOfT s cA ty ∧ va_RA s cA ty := by
  obtain ⟨cA, kA, comp, f1, f2, f3⟩ := Cond.arrayClass_spec (args := args) (first := s) (o := none) (s := s) (idx := []) h
  refine ⟨cA, fun n z => ⟨fun k h => (by cases h), kA, f2, comp, f3⟩, ?_⟩
  cases ty with
  | object C => exact absurd rfl (hp C)
  | _ => exact f1
theorem q_ao {s : State} {args : Array Value} {C : String} (h : (Cond.arrayOver (.object C)).before args s = true) : ∃ cA, ArrOfT s cA (.object C) ∧ va_RA s cA (.object C) := by
  obtain ⟨comp, cA, kA, g1, -, g2, g3, g4⟩ := Cond.arrayOver_spec (args := args) (first := s) (o := none) (s := s) (idx := []) h
  exact ⟨cA, fun n z => ⟨fun k h => (by cases h), kA, g2, comp, g3⟩, kA, comp, g2, g3, g1, g4⟩
def q_FL : List Cond := flatC (Jvm.Cond.and given_1 narrow_1)
def q_tm (i : Nat) : Term := .string (xs_own i) (xs_idx i)
set_option maxRecDepth 100000 in
theorem q_ex : ∀ i, i < 26 → Cond.exactly (q_tm i) "java/lang/String" ∈ q_FL := by decide +kernel
set_option maxRecDepth 100000 in
theorem q_co : ∀ i, i < 26 → Cond.eq (.field (q_tm i) "java/lang/String" "coder" "B") (.int 0) ∈ q_FL := by decide +kernel
set_option maxRecDepth 100000 in
theorem q_ar : ∀ i, i < 26 → Cond.arrayOf (.field (q_tm i) "java/lang/String" "value" "[B") .byte ∈ q_FL := by decide +kernel
set_option maxRecDepth 100000 in
theorem q_le : ∀ i, i < 26 → Cond.eq (.length (.field (q_tm i) "java/lang/String" "value" "[B")) (.int (Int32.ofNat (xs_byt i).length)) ∈ q_FL := by decide +kernel
def q_ps : List Nat := [39, 71, 156, 169, 176, 162, 79, 198, 208, 190, 235, 244, 254, 265, 274, 283, 292, 300, 308, 325, 333, 341, 182, 217, 226, 318]
set_option maxRecDepth 100000 in
theorem q_e0 : ∀ i, i < 6 → 0 ≤ i → ∀ j, j < (xs_byt i).length → q_FL[q_ps.getD i 0 + j]? = some (Cond.eq (.elem (.field (q_tm i) "java/lang/String" "value" "[B") (.int (Int32.ofNat j))) (.int ((xs_byt i).getD j 0))) := by decide +kernel
set_option maxRecDepth 100000 in
theorem q_e1 : ∀ i, i < 7 → 6 ≤ i → ∀ j, j < (xs_byt i).length → q_FL[q_ps.getD i 0 + j]? = some (Cond.eq (.elem (.field (q_tm i) "java/lang/String" "value" "[B") (.int (Int32.ofNat j))) (.int ((xs_byt i).getD j 0))) := by decide +kernel
set_option maxRecDepth 100000 in
theorem q_e2 : ∀ i, i < 13 → 7 ≤ i → ∀ j, j < (xs_byt i).length → q_FL[q_ps.getD i 0 + j]? = some (Cond.eq (.elem (.field (q_tm i) "java/lang/String" "value" "[B") (.int (Int32.ofNat j))) (.int ((xs_byt i).getD j 0))) := by decide +kernel
set_option maxRecDepth 100000 in
theorem q_e3 : ∀ i, i < 19 → 13 ≤ i → ∀ j, j < (xs_byt i).length → q_FL[q_ps.getD i 0 + j]? = some (Cond.eq (.elem (.field (q_tm i) "java/lang/String" "value" "[B") (.int (Int32.ofNat j))) (.int ((xs_byt i).getD j 0))) := by decide +kernel
set_option maxRecDepth 100000 in
theorem q_e4 : ∀ i, i < 26 → 19 ≤ i → ∀ j, j < (xs_byt i).length → q_FL[q_ps.getD i 0 + j]? = some (Cond.eq (.elem (.field (q_tm i) "java/lang/String" "value" "[B") (.int (Int32.ofNat j))) (.int ((xs_byt i).getD j 0))) := by decide +kernel
theorem q_el (i : Nat) (hi : i < 26) (j : Nat) (hj : j < (xs_byt i).length) : Cond.eq (.elem (.field (q_tm i) "java/lang/String" "value" "[B") (.int (Int32.ofNat j))) (.int ((xs_byt i).getD j 0)) ∈ q_FL := by
  by_cases h0 : i < 6
  · exact List.mem_of_getElem? (q_e0 i h0 (by omega) j hj)
  by_cases h1 : i < 7
  · exact List.mem_of_getElem? (q_e1 i h1 (by omega) j hj)
  by_cases h2 : i < 13
  · exact List.mem_of_getElem? (q_e2 i h2 (by omega) j hj)
  by_cases h3 : i < 19
  · exact List.mem_of_getElem? (q_e3 i h3 (by omega) j hj)
  exact List.mem_of_getElem? (q_e4 i hi (by omega) j hj)
set_option maxRecDepth 100000 in
theorem q_sr : ∀ i, i < 26 → Cond.stringRef (xs_own i) (xs_idx i) (xs_tx i) ∈ lw_tbl := by decide +kernel
set_option maxRecDepth 100000 in
theorem q_z1 : Cond.eq (.static "java/lang/String" "COMPACT_STRINGS" "Z") (.int 1) ∈ q_FL ∧ Cond.isRef (.static "jdk/internal/util/Preconditions" "SIOOBE_FORMATTER" "Ljava/util/function/BiFunction;") ∈ q_FL := by decide +kernel
set_option maxRecDepth 100000 in
theorem q_z2 : Cond.laysStatic "java/lang/String" "COMPACT_STRINGS" "Z" ∈ lw_tbl ∧ Cond.initialized "java/lang/String" ∈ lw_tbl ∧ Cond.laysStatic "jdk/internal/util/Preconditions" "SIOOBE_FORMATTER" "Ljava/util/function/BiFunction;" ∈ lw_tbl ∧ Cond.initialized "jdk/internal/util/Preconditions" ∈ lw_tbl ∧ Cond.arrayOver (.object RX8) ∈ lw_tbl ∧ Cond.arrayOver (.object RX10) ∈ lw_tbl := by decide +kernel
set_option maxRecDepth 100000 in
theorem q_z3 : ∀ q ∈ xNest, Cond.methodLinkNest q.1 q.2.1 q.2.2 "MendHall" ∈ lw_tbl := by decide +kernel
theorem q_st {s : State} {b : Nat} {A : Nat → Prop} (hts : ∀ w ∈ lw_tbl, w.before #[Value.ref b] s = true) (hgv : (Jvm.Cond.and given_1 narrow_1).before #[Value.ref b] s = true) (hA : ∀ a : Nat, a < s.heap.size → ¬ A a) : ∃ adK adV : Nat → Nat, ∀ i, i < xs_n → va_O "java/lang/String" (adK i) A s s.heap ∧ va_OF "java/lang/String" "coder" "B" (.int 0) (adK i) A s s.heap ∧ va_OF "java/lang/String" "value" "[B" (.ref (adV i)) (adK i) A s s.heap ∧ va_T .byte (adV i) (xs_byt i).length (fun j => .int ((xs_byt i).getD j 0)) A s s.heap ∧ vk_R (xs_own i) (xs_idx i) (xs_tx i) (adK i) s := by
  have hs := flat_of_before _ hgv
  have h0 : ∀ i : Nat, ∃ q : Nat × Nat, i < xs_n → va_O "java/lang/String" q.1 A s s.heap ∧ va_OF "java/lang/String" "coder" "B" (.int 0) q.1 A s s.heap ∧ va_OF "java/lang/String" "value" "[B" (.ref q.2) q.1 A s s.heap ∧ va_T .byte q.2 (xs_byt i).length (fun j => .int ((xs_byt i).getD j 0)) A s s.heap ∧ vk_R (xs_own i) (xs_idx i) (xs_tx i) q.1 s := by
    intro i
    by_cases hi : i < 26
    · obtain ⟨a, c, cA, kA, q1, q2, q3, q4, q5, q6, -⟩ := Cond.exactly_spec (args := #[Value.ref b]) (first := s) (o := none) (s := s) (idx := []) (t := q_tm i) (cls := "java/lang/String") (hs _ (q_ex i hi))
      obtain ⟨t, ht, hT⟩ := va_Tof (f := fun j => .int ((xs_byt i).getD j 0)) (A := A) (show (xs_byt i).length < 2 ^ 31 by have := xs_len_lt i; omega) (hs _ (q_ar i hi)) (va_eqt (hs _ (q_le i hi))) (fun j hj => va_eqt (hs _ (q_el i hi j hj))) hA
      exact ⟨(a, t), fun _ => ⟨⟨cA, q3, q5, by rw [q6]; exact q2, hA a (Array.getElem?_eq_some_iff.mp q3).1⟩, vk_OFof q1 (va_eqt (hs _ (q_co i hi))) hA, vk_OFof q1 ht hA, hT, vk_R.of (hts _ (q_sr i hi)) q1⟩⟩
    · exact ⟨(0, 0), fun h => absurd h hi⟩
  obtain ⟨ad, had⟩ := Classical.axiomOfChoice h0
  exact ⟨fun i => (ad i).1, fun i => (ad i).2, fun i hi => had i hi⟩
/-- at the law's entry all is known that the walks ask -/
theorem q_all {p : Program} {s : State} {m : MethodId} {meth : Method} {c : Code} {b L : Nat} {xs : Nat → Int32} (C0 : lw_At p s m meth c b L xs) : ∃ K : xG, lC K p s m meth c b L xs := by
  obtain ⟨hx, hb, hr, hml, hown, hts, hX, hbl, hlocks, hgv⟩ := id C0
  have htx : ∀ w ∈ xW, w.before #[Value.ref b] s = true := fun w hw => hts w (List.mem_filter.mp hw).1
  have hs := flat_of_before _ hgv
  obtain ⟨dC, dI, hK⟩ := q_kn htx
  obtain ⟨a0, r0a, r0b⟩ := q_ap (ty := .int) (fun C h => by cases h) (htx _ xac_int)
  obtain ⟨a1, r1a, r1b⟩ := q_ap (ty := .byte) (fun C h => by cases h) (htx _ xac_byte)
  obtain ⟨a2, r2a, r2b⟩ := q_ap (ty := .boolean) (fun C h => by cases h) (htx _ xac_boolean)
  obtain ⟨a3, r3a, r3b⟩ := q_ap (ty := .long) (fun C h => by cases h) (htx _ xac_long)
  obtain ⟨a4, r4a, r4b⟩ := q_ao (hts _ q_z2.2.2.2.2.1)
  obtain ⟨a5, r5a, r5b⟩ := q_ao (hts _ q_z2.2.2.2.2.2)
  have hA : ∀ a : Nat, a < s.heap.size → ¬ (fun q : Nat => s.heap.size ≤ q) a := fun a h => Nat.not_le.mpr h
  obtain ⟨adK, adV, hst⟩ := q_st hts hgv hA
  refine ⟨(s.heap.size, dC, dI, (fun i => match i with | 0 => a0 | 1 => a1 | 2 => a2 | 3 => a3 | 4 => a4 | _ => a5), adK, adV), hx, hb, hr, hml, hown, htx, hX, hbl, hlocks, ⟨hK, fun k q hk => ?_⟩, hst, ⟨va_Zof (hts _ q_z2.1) (hts _ q_z2.2.1) (va_eqt (hs _ q_z1.1)) hA, va_Zqof (hts _ q_z2.2.2.1) (hts _ q_z2.2.2.2.1) (hs _ q_z1.2) hA, fun q hq => va_Nw.of rfl (hts _ (q_z3 q hq)), va_AO.of (hts _ q_z2.2.2.2.2.1), va_AO.of (hts _ q_z2.2.2.2.2.2)⟩, rfl⟩
  match k, hk with
  | 0, hk => cases hk; exact ⟨r0a, r0b⟩
  | 1, hk => cases hk; exact ⟨r1a, r1b⟩
  | 2, hk => cases hk; exact ⟨r2a, r2b⟩
  | 3, hk => cases hk; exact ⟨r3a, r3b⟩
  | 4, hk => cases hk; exact ⟨r4a, r4b⟩
  | 5, hk => cases hk; exact ⟨r5a, r5b⟩
  | k + 6, hk => simp [xTys] at hk
