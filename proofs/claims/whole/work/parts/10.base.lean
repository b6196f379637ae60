/-! ===== base: a judgement over the kit's W: a partial map of cells by their addresses instead of lists of cells ===== -/
abbrev xG : Type := Nat × (Nat → ClassId) × (Nat → Nat → Nat) × (Nat → ClassId) × (Nat → Nat) × (Nat → Nat)
abbrev xE : Type := (Nat × Nat × (Nat → Int32)) ⊕ (Nat × (Nat → Int64)) ⊕ (Nat × Nat × (Nat → Option Nat)) ⊕ (Nat × List Value)
abbrev xHp : Type := Nat → Option xE
abbrev xM : Type := MethodName × ByteArray × Nat × Option FieldType
abbrev xPost : Type := Option Value → Nat → xHp → Prop
abbrev eI (t n : Nat) (f : Nat → Int32) : xE := .inl (t, n, f)
abbrev eJ (n : Nat) (f : Nat → Int64) : xE := .inr (.inl (n, f))
abbrev eQ (t n : Nat) (f : Nat → Option Nat) : xE := .inr (.inr (.inl (t, n, f)))
abbrev eO (ci : Nat) (fs : List Value) : xE := .inr (.inr (.inr (ci, fs)))
def xW : List Cond := lw_tbl.filter goodWord
theorem xW_mem {w : Cond} (h : w ∈ lw_tbl) (g : goodWord w = true) : w ∈ xW := List.mem_filter.mpr ⟨h, g⟩
def xcv (K : xG) : xE → va_E
  | .inl (t, n, f) => .inl (K.2.2.2.1 t, n, .inl f)
  | .inr (.inl (n, f)) => .inl (K.2.2.2.1 3, n, .inr (.inl f))
  | .inr (.inr (.inl (t, n, f))) => .inl (K.2.2.2.1 (4 + t), n, .inr (.inr (.inr (.inr f))))
  | .inr (.inr (.inr (ci, fs))) => .inr (ci, fs)
abbrev xD (K : xG) : va_G := (K.2.1, K.2.2.1)
def xTys (K : xG) : List (ClassId × FieldType) := [(K.2.2.2.1 0, .int), (K.2.2.2.1 1, .byte), (K.2.2.2.1 2, .boolean), (K.2.2.2.1 3, .long), (K.2.2.2.1 4, .object RX8), (K.2.2.2.1 5, .object RX10)]
def xA (K : xG) : Nat → Prop := fun q => K.1 ≤ q
def xH (K : xG) (h : Nat) (G : xHp) (H : Heap) : Prop := H.size = h ∧ K.1 ≤ h ∧ ∀ a e, G a = some e → K.1 ≤ a ∧ va_at (xD K) vwCl (a, xcv K e) H
def xup (G : xHp) (a : Nat) (e : xE) : xHp := fun b => if b = a then some e else G b
theorem xup_eq {G : xHp} {a : Nat} {e : xE} : xup G a e a = some e := by simp [xup]
theorem xup_ne {G : xHp} {a b : Nat} {e : xE} (h : b ≠ a) : xup G a e b = G b := by simp [xup, h]
theorem xup_of {G : xHp} {a b : Nat} {e : xE} {r : Option xE} (h : b ≠ a) (k : G b = r) : xup G a e b = r := by rw [xup_ne h]; exact k
theorem xup_up {G : xHp} {a : Nat} {e e' : xE} : xup (xup G a e) a e' = xup G a e' := by funext b; by_cases h : b = a <;> simp [xup, h]
theorem xup_comm {G : xHp} {a b : Nat} {e e' : xE} (h : a ≠ b) : xup (xup G a e) b e' = xup (xup G b e') a e := by
  funext c; by_cases h1 : c = a <;> by_cases h2 : c = b <;> simp_all [xup]
theorem xup_same {G : xHp} {a : Nat} {e : xE} (h : G a = some e) : xup G a e = G := by funext b; by_cases hb : b = a <;> simp_all [xup]
/-- the String constants: class, entry, text; their bytes -/
def xs_own (i : Nat) : String := (xs_tab.getD i ("", 0, "")).1
def xs_idx (i : Nat) : Nat := (xs_tab.getD i ("", 0, "")).2.1
def xs_tx (i : Nat) : String := (xs_tab.getD i ("", 0, "")).2.2
def xs_byt (i : Nat) : List Int32 := xs_bytes.getD i []
def xSt (K : xG) (U : State) (H : Heap) : Prop := ∀ i, i < xs_n → va_O "java/lang/String" (K.2.2.2.2.1 i) (xA K) U H ∧ va_OF "java/lang/String" "coder" "B" (.int 0) (K.2.2.2.2.1 i) (xA K) U H ∧ va_OF "java/lang/String" "value" "[B" (.ref (K.2.2.2.2.2 i)) (K.2.2.2.2.1 i) (xA K) U H ∧ va_T .byte (K.2.2.2.2.2 i) (xs_byt i).length (fun j => .int ((xs_byt i).getD j 0)) (xA K) U H ∧ vk_R (xs_own i) (xs_idx i) (xs_tx i) (K.2.2.2.2.1 i) U
def xNest : List (String × Nat × MethodName) := [(RX4, 11, yX3_init), (RX11, 37, yX5_init), (RX10, 11, yX1_init), (RX2, 13, yX3_init)]
def xZs (K : xG) (U : State) (H : Heap) : Prop := va_Z "java/lang/String" "COMPACT_STRINGS" "Z" (.int 1) (xA K) U H ∧ va_Zq "jdk/internal/util/Preconditions" "SIOOBE_FORMATTER" "Ljava/util/function/BiFunction;" (xA K) U H ∧ (∀ q ∈ xNest, va_Nw (.methodLinkNest q.1 q.2.1 q.2.2 "MendHall") U) ∧ va_AO RX8 U ∧ va_AO RX10 U
def xT (K : xG) (h : Nat) (G : xHp) (U : State) : Prop := xH K h G U.heap ∧ va_K (xD K) vwCl (xTys K) U ∧ xSt K U U.heap ∧ xZs K U U.heap
def xR (d MC MS : Nat) : Room := { frames := d, cells := MC, slots := MS, locals := 64 * d }
def xC (K : xG) (M : xM) (p : Program) (s : State) (m : MethodId) (args : Array Value) (meth : Method) (c : Code) : Prop :=
  p.tables.exec = Jvm.exec ∧ c.code = M.2.1 ∧ meth.sig.returnType = M.2.2.2 ∧ c.maxLocals = M.2.2.1 ∧ s.vm.findClass M.1.cls = some m.cls ∧ (∀ w ∈ xW, w.before args s = true) ∧ meth.locks = false ∧ meth.name = M.1.name ∧ va_K (xD K) vwCl (xTys K) s ∧ xSt K s s.heap ∧ xZs K s s.heap ∧ K.1 ≤ s.heap.size
def xQ (K : xG) (Q : xPost) : Array Value → State → Outcome → State → Prop := fun _ st o t => (∃ v h G, o = .returned v ∧ Q v h G ∧ xT K h G t) ∧ va_F (xA K) st t
def xV (K : xG) (M : xM) (d cb sb h : Nat) (G : xHp) (pc : Nat) (ls : List (Nat × Value)) (st : List Value) (Q : xPost) : Prop :=
  ∀ (p : Program) (l : Launch) (e : Env) (s : State) (m : MethodId) (args : Array Value) (below : List Frame) (meth : Method) (c : Code) (H : Heap) (locs : List Loc) (cells slots : Nat) (lc : Array Slot) (MC MS : Nat),
    xC K M p s m args meth c → xH K h G H → va_S (xA K) s.heap H locs → lv_has lc M.2.2.1 ls → cells + cb ≤ MC → slots + sb ≤ MS →
    W p l e (xR d MC MS) s m args below meth c H locs cells slots (MQ below (xQ K Q) args s MC MS (xA K)) (F0 m pc lc st)
def xCall (K : xG) (M : xM) (d cb sb : Nat) (av : List Value) (h : Nat) (G : xHp) (Q : xPost) : Prop :=
  ∀ l : Launch, Met l M.1 (Cond.code M.1 M.2.1 M.2.2.1 M.2.2.2 :: xW) (xR d cb sb) (va_Pc av (xT K h G)) (xQ K Q) cb sb (xA K)
section XB
variable {K : xG} {M : xM} {d cb sb h : Nat} {G : xHp} {pc : Nat} {ls ls' : List (Nat × Value)} {st : List Value} {Q : xPost}

theorem x_iconst {n : Int} {v : Int32} (hd : decode M.2.1 pc = .ok (.iconst n, 1)) (hv : Int32.ofInt n = v) (k : xV K M d cb sb h G (pc + 1) ls (.int v :: st) Q) : xV K M d cb sb h G pc ls (st) Q := by
  intro p l e s m args below meth c H locs cells slots lc MC MS C hH hS hL h1 h2
  exact lv_iconst C.1 C.2.1 hd hv (k p l e s m args below meth c H locs cells slots lc MC MS C hH hS hL h1 h2)
theorem x_bipush {n : Int} {v : Int32} (hd : decode M.2.1 pc = .ok (.bipush n, 2)) (hv : (Int8.ofInt n).toInt32 = v) (k : xV K M d cb sb h G (pc + 2) ls (.int v :: st) Q) : xV K M d cb sb h G pc ls (st) Q := by
  intro p l e s m args below meth c H locs cells slots lc MC MS C hH hS hL h1 h2
  exact lv_bipush C.1 C.2.1 hd hv (k p l e s m args below meth c H locs cells slots lc MC MS C hH hS hL h1 h2)
theorem x_sipush {n : Int} {v : Int32} (hd : decode M.2.1 pc = .ok (.sipush n, 3)) (hv : (Int16.ofInt n).toInt32 = v) (k : xV K M d cb sb h G (pc + 3) ls (.int v :: st) Q) : xV K M d cb sb h G pc ls (st) Q := by
  intro p l e s m args below meth c H locs cells slots lc MC MS C hH hS hL h1 h2
  exact lv_sipush C.1 C.2.1 hd hv (k p l e s m args below meth c H locs cells slots lc MC MS C hH hS hL h1 h2)
theorem x_lconst {n : Fin 2} {v : Int64} (hd : decode M.2.1 pc = .ok (.lconst n, 1)) (hv : Int64.ofNat (n : Nat) = v) (k : xV K M d cb sb h G (pc + 1) ls (.long v :: st) Q) : xV K M d cb sb h G pc ls (st) Q := by
  intro p l e s m args below meth c H locs cells slots lc MC MS C hH hS hL h1 h2
  exact lv_lconst C.1 C.2.1 hd hv (k p l e s m args below meth c H locs cells slots lc MC MS C hH hS hL h1 h2)
theorem x_iload_n {kf : Fin 4} {x : Int32} (hd : decode M.2.1 pc = .ok (.iload_n kf, 1)) (j : Nat) (hl : ls[j]? = some ((kf : Nat), .int x)) (k : xV K M d cb sb h G (pc + 1) ls (.int x :: st) Q) : xV K M d cb sb h G pc ls (st) Q := by
  intro p l e s m args below meth c H locs cells slots lc MC MS C hH hS hL h1 h2
  exact lv_iload_n C.1 C.2.1 hd rfl (lv_at hL j hl) (k p l e s m args below meth c H locs cells slots lc MC MS C hH hS hL h1 h2)
theorem x_iload {i : Nat} {x : Int32} (hd : decode M.2.1 pc = .ok (.iload i, 2)) (j : Nat) (hl : ls[j]? = some (i, .int x)) (k : xV K M d cb sb h G (pc + 2) ls (.int x :: st) Q) : xV K M d cb sb h G pc ls (st) Q := by
  intro p l e s m args below meth c H locs cells slots lc MC MS C hH hS hL h1 h2
  exact lv_iload C.1 C.2.1 hd (lv_at hL j hl) (k p l e s m args below meth c H locs cells slots lc MC MS C hH hS hL h1 h2)
theorem x_lload_n {kf : Fin 4} {x : Int64} (hd : decode M.2.1 pc = .ok (.lload_n kf, 1)) (j : Nat) (hl : ls[j]? = some ((kf : Nat), .long x)) (k : xV K M d cb sb h G (pc + 1) ls (.long x :: st) Q) : xV K M d cb sb h G pc ls (st) Q := by
  intro p l e s m args below meth c H locs cells slots lc MC MS C hH hS hL h1 h2
  exact lv_lload_n C.1 C.2.1 hd rfl (lv_at hL j hl) (k p l e s m args below meth c H locs cells slots lc MC MS C hH hS hL h1 h2)
theorem x_lload {i : Nat} {x : Int64} (hd : decode M.2.1 pc = .ok (.lload i, 2)) (j : Nat) (hl : ls[j]? = some (i, .long x)) (k : xV K M d cb sb h G (pc + 2) ls (.long x :: st) Q) : xV K M d cb sb h G pc ls (st) Q := by
  intro p l e s m args below meth c H locs cells slots lc MC MS C hH hS hL h1 h2
  exact lv_lload C.1 C.2.1 hd (lv_at hL j hl) (k p l e s m args below meth c H locs cells slots lc MC MS C hH hS hL h1 h2)
theorem x_aload_n {kf : Fin 4} {x : Nat} (hd : decode M.2.1 pc = .ok (.aload_n kf, 1)) (j : Nat) (hl : ls[j]? = some ((kf : Nat), .ref x)) (k : xV K M d cb sb h G (pc + 1) ls (.ref x :: st) Q) : xV K M d cb sb h G pc ls (st) Q := by
  intro p l e s m args below meth c H locs cells slots lc MC MS C hH hS hL h1 h2
  exact lv_aload_n C.1 C.2.1 hd rfl (lv_at hL j hl) (k p l e s m args below meth c H locs cells slots lc MC MS C hH hS hL h1 h2)
theorem x_aload {i : Nat} {x : Nat} (hd : decode M.2.1 pc = .ok (.aload i, 2)) (j : Nat) (hl : ls[j]? = some (i, .ref x)) (k : xV K M d cb sb h G (pc + 2) ls (.ref x :: st) Q) : xV K M d cb sb h G pc ls (st) Q := by
  intro p l e s m args below meth c H locs cells slots lc MC MS C hH hS hL h1 h2
  exact lv_aload C.1 C.2.1 hd (lv_at hL j hl) (k p l e s m args below meth c H locs cells slots lc MC MS C hH hS hL h1 h2)
theorem x_aload_nN {kf : Fin 4} (hd : decode M.2.1 pc = .ok (.aload_n kf, 1)) (j : Nat) (hl : ls[j]? = some ((kf : Nat), .null)) (k : xV K M d cb sb h G (pc + 1) ls (.null :: st) Q) : xV K M d cb sb h G pc ls (st) Q := by
  intro p l e s m args below meth c H locs cells slots lc MC MS C hH hS hL h1 h2
  exact lv_aload_nN C.1 C.2.1 hd rfl (lv_at hL j hl) (k p l e s m args below meth c H locs cells slots lc MC MS C hH hS hL h1 h2)
theorem x_aloadN {i : Nat} (hd : decode M.2.1 pc = .ok (.aload i, 2)) (j : Nat) (hl : ls[j]? = some (i, .null)) (k : xV K M d cb sb h G (pc + 2) ls (.null :: st) Q) : xV K M d cb sb h G pc ls (st) Q := by
  intro p l e s m args below meth c H locs cells slots lc MC MS C hH hS hL h1 h2
  exact lv_aloadN C.1 C.2.1 hd (lv_at hL j hl) (k p l e s m args below meth c H locs cells slots lc MC MS C hH hS hL h1 h2)
theorem x_iadd {x y : Int32} (hd : decode M.2.1 pc = .ok (.iadd, 1))  (k : xV K M d cb sb h G (pc + 1) ls (.int (x + y) :: st) Q) : xV K M d cb sb h G pc ls (.int y :: .int x :: st) Q := by
  intro p l e s m args below meth c H locs cells slots lc MC MS C hH hS hL h1 h2
  exact lv_iadd C.1 C.2.1 hd  (k p l e s m args below meth c H locs cells slots lc MC MS C hH hS hL h1 h2)
theorem x_isub {x y : Int32} (hd : decode M.2.1 pc = .ok (.isub, 1))  (k : xV K M d cb sb h G (pc + 1) ls (.int (x - y) :: st) Q) : xV K M d cb sb h G pc ls (.int y :: .int x :: st) Q := by
  intro p l e s m args below meth c H locs cells slots lc MC MS C hH hS hL h1 h2
  exact lv_isub C.1 C.2.1 hd  (k p l e s m args below meth c H locs cells slots lc MC MS C hH hS hL h1 h2)
theorem x_imul {x y : Int32} (hd : decode M.2.1 pc = .ok (.imul, 1))  (k : xV K M d cb sb h G (pc + 1) ls (.int (x * y) :: st) Q) : xV K M d cb sb h G pc ls (.int y :: .int x :: st) Q := by
  intro p l e s m args below meth c H locs cells slots lc MC MS C hH hS hL h1 h2
  exact lv_imul C.1 C.2.1 hd  (k p l e s m args below meth c H locs cells slots lc MC MS C hH hS hL h1 h2)
theorem x_iand {x y : Int32} (hd : decode M.2.1 pc = .ok (.iand, 1))  (k : xV K M d cb sb h G (pc + 1) ls (.int (x &&& y) :: st) Q) : xV K M d cb sb h G pc ls (.int y :: .int x :: st) Q := by
  intro p l e s m args below meth c H locs cells slots lc MC MS C hH hS hL h1 h2
  exact lv_iand C.1 C.2.1 hd  (k p l e s m args below meth c H locs cells slots lc MC MS C hH hS hL h1 h2)
theorem x_ior {x y : Int32} (hd : decode M.2.1 pc = .ok (.ior, 1))  (k : xV K M d cb sb h G (pc + 1) ls (.int (x ||| y) :: st) Q) : xV K M d cb sb h G pc ls (.int y :: .int x :: st) Q := by
  intro p l e s m args below meth c H locs cells slots lc MC MS C hH hS hL h1 h2
  exact lv_ior C.1 C.2.1 hd  (k p l e s m args below meth c H locs cells slots lc MC MS C hH hS hL h1 h2)
theorem x_ishl {x y : Int32} (hd : decode M.2.1 pc = .ok (.ishl, 1))  (k : xV K M d cb sb h G (pc + 1) ls (.int (x <<< (y &&& 31)) :: st) Q) : xV K M d cb sb h G pc ls (.int y :: .int x :: st) Q := by
  intro p l e s m args below meth c H locs cells slots lc MC MS C hH hS hL h1 h2
  exact lv_ishl C.1 C.2.1 hd  (k p l e s m args below meth c H locs cells slots lc MC MS C hH hS hL h1 h2)
theorem x_ishr {x y : Int32} (hd : decode M.2.1 pc = .ok (.ishr, 1))  (k : xV K M d cb sb h G (pc + 1) ls (.int (x >>> (y &&& 31)) :: st) Q) : xV K M d cb sb h G pc ls (.int y :: .int x :: st) Q := by
  intro p l e s m args below meth c H locs cells slots lc MC MS C hH hS hL h1 h2
  exact lv_ishr C.1 C.2.1 hd  (k p l e s m args below meth c H locs cells slots lc MC MS C hH hS hL h1 h2)
theorem x_idiv {x y : Int32} (hd : decode M.2.1 pc = .ok (.idiv, 1)) (hne : ¬ y = 0) (k : xV K M d cb sb h G (pc + 1) ls (.int (x / y) :: st) Q) : xV K M d cb sb h G pc ls (.int y :: .int x :: st) Q := by
  intro p l e s m args below meth c H locs cells slots lc MC MS C hH hS hL h1 h2
  exact lv_idiv C.1 C.2.1 hd hne (k p l e s m args below meth c H locs cells slots lc MC MS C hH hS hL h1 h2)
theorem x_irem {x y : Int32} (hd : decode M.2.1 pc = .ok (.irem, 1)) (hne : ¬ y = 0) (k : xV K M d cb sb h G (pc + 1) ls (.int (x - x / y * y) :: st) Q) : xV K M d cb sb h G pc ls (.int y :: .int x :: st) Q := by
  intro p l e s m args below meth c H locs cells slots lc MC MS C hH hS hL h1 h2
  exact lv_irem C.1 C.2.1 hd hne (k p l e s m args below meth c H locs cells slots lc MC MS C hH hS hL h1 h2)
theorem x_ladd {x y : Int64} (hd : decode M.2.1 pc = .ok (.ladd, 1))  (k : xV K M d cb sb h G (pc + 1) ls (.long (x + y) :: st) Q) : xV K M d cb sb h G pc ls (.long y :: .long x :: st) Q := by
  intro p l e s m args below meth c H locs cells slots lc MC MS C hH hS hL h1 h2
  exact lv_ladd C.1 C.2.1 hd  (k p l e s m args below meth c H locs cells slots lc MC MS C hH hS hL h1 h2)
theorem x_lsub {x y : Int64} (hd : decode M.2.1 pc = .ok (.lsub, 1))  (k : xV K M d cb sb h G (pc + 1) ls (.long (x - y) :: st) Q) : xV K M d cb sb h G pc ls (.long y :: .long x :: st) Q := by
  intro p l e s m args below meth c H locs cells slots lc MC MS C hH hS hL h1 h2
  exact lv_lsub C.1 C.2.1 hd  (k p l e s m args below meth c H locs cells slots lc MC MS C hH hS hL h1 h2)
theorem x_lmul {x y : Int64} (hd : decode M.2.1 pc = .ok (.lmul, 1))  (k : xV K M d cb sb h G (pc + 1) ls (.long (x * y) :: st) Q) : xV K M d cb sb h G pc ls (.long y :: .long x :: st) Q := by
  intro p l e s m args below meth c H locs cells slots lc MC MS C hH hS hL h1 h2
  exact lv_lmul C.1 C.2.1 hd  (k p l e s m args below meth c H locs cells slots lc MC MS C hH hS hL h1 h2)
theorem x_land {x y : Int64} (hd : decode M.2.1 pc = .ok (.land, 1))  (k : xV K M d cb sb h G (pc + 1) ls (.long (x &&& y) :: st) Q) : xV K M d cb sb h G pc ls (.long y :: .long x :: st) Q := by
  intro p l e s m args below meth c H locs cells slots lc MC MS C hH hS hL h1 h2
  exact lv_land C.1 C.2.1 hd  (k p l e s m args below meth c H locs cells slots lc MC MS C hH hS hL h1 h2)
theorem x_lor {x y : Int64} (hd : decode M.2.1 pc = .ok (.lor, 1))  (k : xV K M d cb sb h G (pc + 1) ls (.long (x ||| y) :: st) Q) : xV K M d cb sb h G pc ls (.long y :: .long x :: st) Q := by
  intro p l e s m args below meth c H locs cells slots lc MC MS C hH hS hL h1 h2
  exact lv_lor C.1 C.2.1 hd  (k p l e s m args below meth c H locs cells slots lc MC MS C hH hS hL h1 h2)
theorem x_ldiv {x y : Int64} (hd : decode M.2.1 pc = .ok (.ldiv, 1)) (hne : ¬ y = 0) (k : xV K M d cb sb h G (pc + 1) ls (.long (x / y) :: st) Q) : xV K M d cb sb h G pc ls (.long y :: .long x :: st) Q := by
  intro p l e s m args below meth c H locs cells slots lc MC MS C hH hS hL h1 h2
  exact lv_ldiv C.1 C.2.1 hd hne (k p l e s m args below meth c H locs cells slots lc MC MS C hH hS hL h1 h2)
theorem x_lrem {x y : Int64} (hd : decode M.2.1 pc = .ok (.lrem, 1)) (hne : ¬ y = 0) (k : xV K M d cb sb h G (pc + 1) ls (.long (x - x / y * y) :: st) Q) : xV K M d cb sb h G pc ls (.long y :: .long x :: st) Q := by
  intro p l e s m args below meth c H locs cells slots lc MC MS C hH hS hL h1 h2
  exact lv_lrem C.1 C.2.1 hd hne (k p l e s m args below meth c H locs cells slots lc MC MS C hH hS hL h1 h2)
theorem x_i2l {x : Int32} (hd : decode M.2.1 pc = .ok (.i2l, 1))  (k : xV K M d cb sb h G (pc + 1) ls (.long x.toInt64 :: st) Q) : xV K M d cb sb h G pc ls (.int x :: st) Q := by
  intro p l e s m args below meth c H locs cells slots lc MC MS C hH hS hL h1 h2
  exact lv_i2l C.1 C.2.1 hd rfl (k p l e s m args below meth c H locs cells slots lc MC MS C hH hS hL h1 h2)
theorem x_l2i {x : Int64} (hd : decode M.2.1 pc = .ok (.l2i, 1))  (k : xV K M d cb sb h G (pc + 1) ls (.int x.toInt32 :: st) Q) : xV K M d cb sb h G pc ls (.long x :: st) Q := by
  intro p l e s m args below meth c H locs cells slots lc MC MS C hH hS hL h1 h2
  exact lv_l2i C.1 C.2.1 hd rfl (k p l e s m args below meth c H locs cells slots lc MC MS C hH hS hL h1 h2)
theorem x_i2b {x : Int32} (hd : decode M.2.1 pc = .ok (.i2b, 1))  (k : xV K M d cb sb h G (pc + 1) ls (.int x.toInt8.toInt32 :: st) Q) : xV K M d cb sb h G pc ls (.int x :: st) Q := by
  intro p l e s m args below meth c H locs cells slots lc MC MS C hH hS hL h1 h2
  exact lv_i2b C.1 C.2.1 hd rfl (k p l e s m args below meth c H locs cells slots lc MC MS C hH hS hL h1 h2)
theorem x_i2c {x : Int32} (hd : decode M.2.1 pc = .ok (.i2c, 1))  (k : xV K M d cb sb h G (pc + 1) ls (.int (x.toUInt32 % 65536).toInt32 :: st) Q) : xV K M d cb sb h G pc ls (.int x :: st) Q := by
  intro p l e s m args below meth c H locs cells slots lc MC MS C hH hS hL h1 h2
  exact lv_i2c C.1 C.2.1 hd rfl (k p l e s m args below meth c H locs cells slots lc MC MS C hH hS hL h1 h2)
theorem x_iushr {x y : Int32} (hd : decode M.2.1 pc = .ok (.iushr, 1))  (k : xV K M d cb sb h G (pc + 1) ls (.int (x.toUInt32 >>> (y.toUInt32 &&& Int32.toUInt32 31)).toInt32 :: st) Q) : xV K M d cb sb h G pc ls (.int y :: .int x :: st) Q := by
  intro p l e s m args below meth c H locs cells slots lc MC MS C hH hS hL h1 h2
  exact lv_iushr C.1 C.2.1 hd rfl (k p l e s m args below meth c H locs cells slots lc MC MS C hH hS hL h1 h2)
theorem x_dup {va : Value} (hd : decode M.2.1 pc = .ok (.dup, 1)) (hv : va.category = 1) (k : xV K M d cb sb h G (pc + 1) ls (va :: va :: st) Q) : xV K M d cb sb h G pc ls (va :: st) Q := by
  intro p l e s m args below meth c H locs cells slots lc MC MS C hH hS hL h1 h2
  exact lv_dup C.1 C.2.1 hd hv (k p l e s m args below meth c H locs cells slots lc MC MS C hH hS hL h1 h2)
theorem x_pop {va : Value} (hd : decode M.2.1 pc = .ok (.pop, 1)) (hv : va.category = 1) (k : xV K M d cb sb h G (pc + 1) ls (st) Q) : xV K M d cb sb h G pc ls (va :: st) Q := by
  intro p l e s m args below meth c H locs cells slots lc MC MS C hH hS hL h1 h2
  exact lv_pop C.1 C.2.1 hd hv (k p l e s m args below meth c H locs cells slots lc MC MS C hH hS hL h1 h2)
theorem x_dup_x1 {va vb : Value} (hd : decode M.2.1 pc = .ok (.dup_x1, 1)) (hv : va.category = 1) (hv2 : vb.category = 1) (k : xV K M d cb sb h G (pc + 1) ls (va :: vb :: va :: st) Q) : xV K M d cb sb h G pc ls (va :: vb :: st) Q := by
  intro p l e s m args below meth c H locs cells slots lc MC MS C hH hS hL h1 h2
  exact lv_dup_x1 C.1 C.2.1 hd hv hv2 (k p l e s m args below meth c H locs cells slots lc MC MS C hH hS hL h1 h2)
theorem x_dup2 {va vb : Value} (hd : decode M.2.1 pc = .ok (.dup2, 1)) (hv : va.category = 1) (hv2 : vb.category = 1) (k : xV K M d cb sb h G (pc + 1) ls (va :: vb :: va :: vb :: st) Q) : xV K M d cb sb h G pc ls (va :: vb :: st) Q := by
  intro p l e s m args below meth c H locs cells slots lc MC MS C hH hS hL h1 h2
  exact lv_dup2_11 C.1 C.2.1 hd hv hv2 (k p l e s m args below meth c H locs cells slots lc MC MS C hH hS hL h1 h2)
theorem x_dup2l {va : Value} (hd : decode M.2.1 pc = .ok (.dup2, 1)) (hv : va.category = 2) (k : xV K M d cb sb h G (pc + 1) ls (va :: va :: st) Q) : xV K M d cb sb h G pc ls (va :: st) Q := by
  intro p l e s m args below meth c H locs cells slots lc MC MS C hH hS hL h1 h2
  exact lv_dup2_2 C.1 C.2.1 hd hv (k p l e s m args below meth c H locs cells slots lc MC MS C hH hS hL h1 h2)
theorem x_lcmp {x y : Int64} (hd : decode M.2.1 pc = .ok (.lcmp, 1))  (k : xV K M d cb sb h G (pc + 1) ls (.int (lg_cmp x y) :: st) Q) : xV K M d cb sb h G pc ls (.long y :: .long x :: st) Q := by
  intro p l e s m args below meth c H locs cells slots lc MC MS C hH hS hL h1 h2
  exact W.lcmp C.1 C.2.1 hd  (k p l e s m args below meth c H locs cells slots lc MC MS C hH hS hL h1 h2)
theorem x_null  (hd : decode M.2.1 pc = .ok (.aconst_null, 1))  (k : xV K M d cb sb h G (pc + 1) ls (.null :: st) Q) : xV K M d cb sb h G pc ls (st) Q := by
  intro p l e s m args below meth c H locs cells slots lc MC MS C hH hS hL h1 h2
  exact lv_null C.1 C.2.1 hd  (k p l e s m args below meth c H locs cells slots lc MC MS C hH hS hL h1 h2)
theorem x_istore_n {kf : Fin 4} {x : Int32} (hd : decode M.2.1 pc = .ok (.istore_n kf, 1)) (hn : (kf : Nat) < M.2.2.1) (hl : ((kf : Nat), Value.int x) :: ls.filter (fun q => !(q.1 == (kf : Nat)) && !(q.1 + 1 == (kf : Nat) && q.2.category == 2)) = ls') (k : xV K M d cb sb h G (pc + 1) ls' st Q) : xV K M d cb sb h G pc ls (Value.int x :: st) Q := by
  intro p l e s m args below meth c H locs cells slots lc MC MS C hH hS hL h1 h2
  exact lv_istore_n C.1 C.2.1 hd rfl hL hn hl (fun lc hL => k p l e s m args below meth c H locs cells slots lc MC MS C hH hS hL h1 h2)
theorem x_istore {i : Nat} {x : Int32} (hd : decode M.2.1 pc = .ok (.istore i, 2)) (hn : i < M.2.2.1) (hl : (i, Value.int x) :: ls.filter (fun q => !(q.1 == i) && !(q.1 + 1 == i && q.2.category == 2)) = ls') (k : xV K M d cb sb h G (pc + 2) ls' st Q) : xV K M d cb sb h G pc ls (Value.int x :: st) Q := by
  intro p l e s m args below meth c H locs cells slots lc MC MS C hH hS hL h1 h2
  exact lv_istore C.1 C.2.1 hd  hL hn hl (fun lc hL => k p l e s m args below meth c H locs cells slots lc MC MS C hH hS hL h1 h2)
theorem x_astore_n {kf : Fin 4} {x : Nat} (hd : decode M.2.1 pc = .ok (.astore_n kf, 1)) (hn : (kf : Nat) < M.2.2.1) (hl : ((kf : Nat), Value.ref x) :: ls.filter (fun q => !(q.1 == (kf : Nat)) && !(q.1 + 1 == (kf : Nat) && q.2.category == 2)) = ls') (k : xV K M d cb sb h G (pc + 1) ls' st Q) : xV K M d cb sb h G pc ls (Value.ref x :: st) Q := by
  intro p l e s m args below meth c H locs cells slots lc MC MS C hH hS hL h1 h2
  exact lv_astore_n C.1 C.2.1 hd rfl hL hn hl (fun lc hL => k p l e s m args below meth c H locs cells slots lc MC MS C hH hS hL h1 h2)
theorem x_astore {i : Nat} {x : Nat} (hd : decode M.2.1 pc = .ok (.astore i, 2)) (hn : i < M.2.2.1) (hl : (i, Value.ref x) :: ls.filter (fun q => !(q.1 == i) && !(q.1 + 1 == i && q.2.category == 2)) = ls') (k : xV K M d cb sb h G (pc + 2) ls' st Q) : xV K M d cb sb h G pc ls (Value.ref x :: st) Q := by
  intro p l e s m args below meth c H locs cells slots lc MC MS C hH hS hL h1 h2
  exact lv_astore C.1 C.2.1 hd  hL hn hl (fun lc hL => k p l e s m args below meth c H locs cells slots lc MC MS C hH hS hL h1 h2)
theorem x_astore_nN {kf : Fin 4} (hd : decode M.2.1 pc = .ok (.astore_n kf, 1)) (hn : (kf : Nat) < M.2.2.1) (hl : ((kf : Nat), Value.null) :: ls.filter (fun q => !(q.1 == (kf : Nat)) && !(q.1 + 1 == (kf : Nat) && q.2.category == 2)) = ls') (k : xV K M d cb sb h G (pc + 1) ls' st Q) : xV K M d cb sb h G pc ls (Value.null :: st) Q := by
  intro p l e s m args below meth c H locs cells slots lc MC MS C hH hS hL h1 h2
  exact lv_astore_nN C.1 C.2.1 hd rfl hL hn hl (fun lc hL => k p l e s m args below meth c H locs cells slots lc MC MS C hH hS hL h1 h2)
theorem x_astoreN {i : Nat} (hd : decode M.2.1 pc = .ok (.astore i, 2)) (hn : i < M.2.2.1) (hl : (i, Value.null) :: ls.filter (fun q => !(q.1 == i) && !(q.1 + 1 == i && q.2.category == 2)) = ls') (k : xV K M d cb sb h G (pc + 2) ls' st Q) : xV K M d cb sb h G pc ls (Value.null :: st) Q := by
  intro p l e s m args below meth c H locs cells slots lc MC MS C hH hS hL h1 h2
  exact lv_astoreN C.1 C.2.1 hd  hL hn hl (fun lc hL => k p l e s m args below meth c H locs cells slots lc MC MS C hH hS hL h1 h2)
theorem x_lstore_n {kf : Fin 4} {x : Int64} (hd : decode M.2.1 pc = .ok (.lstore_n kf, 1)) (hn : (kf : Nat) + 1 < M.2.2.1) (hl : ((kf : Nat), Value.long x) :: ls.filter (fun q => !(q.1 == (kf : Nat)) && (!(q.1 == (kf : Nat) + 1) && !(q.1 + 1 == (kf : Nat) && q.2.category == 2))) = ls') (k : xV K M d cb sb h G (pc + 1) ls' st Q) : xV K M d cb sb h G pc ls (Value.long x :: st) Q := by
  intro p l e s m args below meth c H locs cells slots lc MC MS C hH hS hL h1 h2
  exact lv_lstore_n C.1 C.2.1 hd rfl hL hn hl (fun lc hL => k p l e s m args below meth c H locs cells slots lc MC MS C hH hS hL h1 h2)
theorem x_lstore {i : Nat} {x : Int64} (hd : decode M.2.1 pc = .ok (.lstore i, 2)) (hn : i + 1 < M.2.2.1) (hl : (i, Value.long x) :: ls.filter (fun q => !(q.1 == i) && (!(q.1 == i + 1) && !(q.1 + 1 == i && q.2.category == 2))) = ls') (k : xV K M d cb sb h G (pc + 2) ls' st Q) : xV K M d cb sb h G pc ls (Value.long x :: st) Q := by
  intro p l e s m args below meth c H locs cells slots lc MC MS C hH hS hL h1 h2
  exact lv_lstore C.1 C.2.1 hd  hL hn hl (fun lc hL => k p l e s m args below meth c H locs cells slots lc MC MS C hH hS hL h1 h2)
theorem x_iinc {i : Nat} {n : Int} {x v : Int32} (hd : decode M.2.1 pc = .ok (.iinc i n, 3)) (j : Nat) (hj : ls[j]? = some (i, .int x)) (hv : x + Int32.ofInt n = v) (hn : i < M.2.2.1) (hl : (i, Value.int v) :: ls.filter (fun q => !(q.1 == i) && !(q.1 + 1 == i && q.2.category == 2)) = ls') (k : xV K M d cb sb h G (pc + 3) ls' st Q) : xV K M d cb sb h G pc ls st Q := by
  intro p l e s m args below meth c H locs cells slots lc MC MS C hH hS hL h1 h2
  exact lv_iinc C.1 C.2.1 hd hL (k := j) hj hv hn hl (fun lc hL => k p l e s m args below meth c H locs cells slots lc MC MS C hH hS hL h1 h2)
theorem x_perm (ks : List Nat) (hl : lv_pick ls ks = ls') (k : xV K M d cb sb h G pc ls' st Q) : xV K M d cb sb h G pc ls st Q := fun p l e s m args below meth c H locs cells slots lc MC MS C hH hS hL h1 h2 => k p l e s m args below meth c H locs cells slots lc MC MS C hH hS (lv_sub hL ks hl) h1 h2
theorem x_if_eq {x : Int32} {off : Int} {tgt : Nat} (hd : decode M.2.1 pc = .ok (.ifCond .eq off, 3)) (ht : (pc : Int) + off = (tgt : Int)) (kt : x = 0 → xV K M d cb sb h G tgt ls st Q) (kf : ¬ (x = 0) → xV K M d cb sb h G (pc + 3) ls st Q) : xV K M d cb sb h G pc ls (.int x :: st) Q := by
  intro p l e s m args below meth c H locs cells slots lc MC MS C hH hS hL h1 h2
  exact lv_if_eq C.1 C.2.1 hd ht (fun q => kt q p l e s m args below meth c H locs cells slots lc MC MS C hH hS hL h1 h2) (fun q => kf q p l e s m args below meth c H locs cells slots lc MC MS C hH hS hL h1 h2)
theorem x_if_ne {x : Int32} {off : Int} {tgt : Nat} (hd : decode M.2.1 pc = .ok (.ifCond .ne off, 3)) (ht : (pc : Int) + off = (tgt : Int)) (kt : ¬ x = 0 → xV K M d cb sb h G tgt ls st Q) (kf : x = 0 → xV K M d cb sb h G (pc + 3) ls st Q) : xV K M d cb sb h G pc ls (.int x :: st) Q := by
  intro p l e s m args below meth c H locs cells slots lc MC MS C hH hS hL h1 h2
  exact lv_if_ne C.1 C.2.1 hd ht (fun q => kt q p l e s m args below meth c H locs cells slots lc MC MS C hH hS hL h1 h2) (fun q => kf q p l e s m args below meth c H locs cells slots lc MC MS C hH hS hL h1 h2)
theorem x_if_lt {x : Int32} {off : Int} {tgt : Nat} (hd : decode M.2.1 pc = .ok (.ifCond .lt off, 3)) (ht : (pc : Int) + off = (tgt : Int)) (kt : x < 0 → xV K M d cb sb h G tgt ls st Q) (kf : ¬ (x < 0) → xV K M d cb sb h G (pc + 3) ls st Q) : xV K M d cb sb h G pc ls (.int x :: st) Q := by
  intro p l e s m args below meth c H locs cells slots lc MC MS C hH hS hL h1 h2
  exact lv_if_lt C.1 C.2.1 hd ht (fun q => kt q p l e s m args below meth c H locs cells slots lc MC MS C hH hS hL h1 h2) (fun q => kf q p l e s m args below meth c H locs cells slots lc MC MS C hH hS hL h1 h2)
theorem x_if_ge {x : Int32} {off : Int} {tgt : Nat} (hd : decode M.2.1 pc = .ok (.ifCond .ge off, 3)) (ht : (pc : Int) + off = (tgt : Int)) (kt : 0 ≤ x → xV K M d cb sb h G tgt ls st Q) (kf : ¬ (0 ≤ x) → xV K M d cb sb h G (pc + 3) ls st Q) : xV K M d cb sb h G pc ls (.int x :: st) Q := by
  intro p l e s m args below meth c H locs cells slots lc MC MS C hH hS hL h1 h2
  exact lv_if_ge C.1 C.2.1 hd ht (fun q => kt q p l e s m args below meth c H locs cells slots lc MC MS C hH hS hL h1 h2) (fun q => kf q p l e s m args below meth c H locs cells slots lc MC MS C hH hS hL h1 h2)
theorem x_if_gt {x : Int32} {off : Int} {tgt : Nat} (hd : decode M.2.1 pc = .ok (.ifCond .gt off, 3)) (ht : (pc : Int) + off = (tgt : Int)) (kt : 0 < x → xV K M d cb sb h G tgt ls st Q) (kf : ¬ (0 < x) → xV K M d cb sb h G (pc + 3) ls st Q) : xV K M d cb sb h G pc ls (.int x :: st) Q := by
  intro p l e s m args below meth c H locs cells slots lc MC MS C hH hS hL h1 h2
  exact lv_if_gt C.1 C.2.1 hd ht (fun q => kt q p l e s m args below meth c H locs cells slots lc MC MS C hH hS hL h1 h2) (fun q => kf q p l e s m args below meth c H locs cells slots lc MC MS C hH hS hL h1 h2)
theorem x_if_le {x : Int32} {off : Int} {tgt : Nat} (hd : decode M.2.1 pc = .ok (.ifCond .le off, 3)) (ht : (pc : Int) + off = (tgt : Int)) (kt : x ≤ 0 → xV K M d cb sb h G tgt ls st Q) (kf : ¬ (x ≤ 0) → xV K M d cb sb h G (pc + 3) ls st Q) : xV K M d cb sb h G pc ls (.int x :: st) Q := by
  intro p l e s m args below meth c H locs cells slots lc MC MS C hH hS hL h1 h2
  exact lv_if_le C.1 C.2.1 hd ht (fun q => kt q p l e s m args below meth c H locs cells slots lc MC MS C hH hS hL h1 h2) (fun q => kf q p l e s m args below meth c H locs cells slots lc MC MS C hH hS hL h1 h2)
theorem x_icmp_eq {x y : Int32} {off : Int} {tgt : Nat} (hd : decode M.2.1 pc = .ok (.if_icmp .eq off, 3)) (ht : (pc : Int) + off = (tgt : Int)) (kt : x = y → xV K M d cb sb h G tgt ls st Q) (kf : ¬ (x = y) → xV K M d cb sb h G (pc + 3) ls st Q) : xV K M d cb sb h G pc ls (.int y :: .int x :: st) Q := by
  intro p l e s m args below meth c H locs cells slots lc MC MS C hH hS hL h1 h2
  exact lv_icmp_eq C.1 C.2.1 hd ht (fun q => kt q p l e s m args below meth c H locs cells slots lc MC MS C hH hS hL h1 h2) (fun q => kf q p l e s m args below meth c H locs cells slots lc MC MS C hH hS hL h1 h2)
theorem x_icmp_ne {x y : Int32} {off : Int} {tgt : Nat} (hd : decode M.2.1 pc = .ok (.if_icmp .ne off, 3)) (ht : (pc : Int) + off = (tgt : Int)) (kt : ¬ x = y → xV K M d cb sb h G tgt ls st Q) (kf : x = y → xV K M d cb sb h G (pc + 3) ls st Q) : xV K M d cb sb h G pc ls (.int y :: .int x :: st) Q := by
  intro p l e s m args below meth c H locs cells slots lc MC MS C hH hS hL h1 h2
  exact lv_icmp_ne C.1 C.2.1 hd ht (fun q => kt q p l e s m args below meth c H locs cells slots lc MC MS C hH hS hL h1 h2) (fun q => kf q p l e s m args below meth c H locs cells slots lc MC MS C hH hS hL h1 h2)
theorem x_icmp_lt {x y : Int32} {off : Int} {tgt : Nat} (hd : decode M.2.1 pc = .ok (.if_icmp .lt off, 3)) (ht : (pc : Int) + off = (tgt : Int)) (kt : x < y → xV K M d cb sb h G tgt ls st Q) (kf : ¬ (x < y) → xV K M d cb sb h G (pc + 3) ls st Q) : xV K M d cb sb h G pc ls (.int y :: .int x :: st) Q := by
  intro p l e s m args below meth c H locs cells slots lc MC MS C hH hS hL h1 h2
  exact lv_icmp_lt C.1 C.2.1 hd ht (fun q => kt q p l e s m args below meth c H locs cells slots lc MC MS C hH hS hL h1 h2) (fun q => kf q p l e s m args below meth c H locs cells slots lc MC MS C hH hS hL h1 h2)
theorem x_icmp_ge {x y : Int32} {off : Int} {tgt : Nat} (hd : decode M.2.1 pc = .ok (.if_icmp .ge off, 3)) (ht : (pc : Int) + off = (tgt : Int)) (kt : y ≤ x → xV K M d cb sb h G tgt ls st Q) (kf : ¬ (y ≤ x) → xV K M d cb sb h G (pc + 3) ls st Q) : xV K M d cb sb h G pc ls (.int y :: .int x :: st) Q := by
  intro p l e s m args below meth c H locs cells slots lc MC MS C hH hS hL h1 h2
  exact lv_icmp_ge C.1 C.2.1 hd ht (fun q => kt q p l e s m args below meth c H locs cells slots lc MC MS C hH hS hL h1 h2) (fun q => kf q p l e s m args below meth c H locs cells slots lc MC MS C hH hS hL h1 h2)
theorem x_icmp_gt {x y : Int32} {off : Int} {tgt : Nat} (hd : decode M.2.1 pc = .ok (.if_icmp .gt off, 3)) (ht : (pc : Int) + off = (tgt : Int)) (kt : y < x → xV K M d cb sb h G tgt ls st Q) (kf : ¬ (y < x) → xV K M d cb sb h G (pc + 3) ls st Q) : xV K M d cb sb h G pc ls (.int y :: .int x :: st) Q := by
  intro p l e s m args below meth c H locs cells slots lc MC MS C hH hS hL h1 h2
  exact lv_icmp_gt C.1 C.2.1 hd ht (fun q => kt q p l e s m args below meth c H locs cells slots lc MC MS C hH hS hL h1 h2) (fun q => kf q p l e s m args below meth c H locs cells slots lc MC MS C hH hS hL h1 h2)
theorem x_icmp_le {x y : Int32} {off : Int} {tgt : Nat} (hd : decode M.2.1 pc = .ok (.if_icmp .le off, 3)) (ht : (pc : Int) + off = (tgt : Int)) (kt : x ≤ y → xV K M d cb sb h G tgt ls st Q) (kf : ¬ (x ≤ y) → xV K M d cb sb h G (pc + 3) ls st Q) : xV K M d cb sb h G pc ls (.int y :: .int x :: st) Q := by
  intro p l e s m args below meth c H locs cells slots lc MC MS C hH hS hL h1 h2
  exact lv_icmp_le C.1 C.2.1 hd ht (fun q => kt q p l e s m args below meth c H locs cells slots lc MC MS C hH hS hL h1 h2) (fun q => kf q p l e s m args below meth c H locs cells slots lc MC MS C hH hS hL h1 h2)
theorem x_goto {off : Int} {tgt : Nat} (hd : decode M.2.1 pc = .ok (.goto off, 3)) (ht : (pc : Int) + off = (tgt : Int)) (k : xV K M d cb sb h G tgt ls st Q) : xV K M d cb sb h G pc ls st Q := by
  intro p l e s m args below meth c H locs cells slots lc MC MS C hH hS hL h1 h2
  exact lv_goto C.1 C.2.1 hd ht (k p l e s m args below meth c H locs cells slots lc MC MS C hH hS hL h1 h2)
theorem x_tableOut {df lo hi : Int} {offs : Array Int} {len : Nat} {x : Int32} {tgt : Nat} (hd : decode M.2.1 pc = .ok (.tableswitch df lo hi offs, len)) (h0 : x.toInt < lo ∨ hi < x.toInt) (ht : (pc : Int) + df = (tgt : Int)) (k : xV K M d cb sb h G tgt ls st Q) : xV K M d cb sb h G pc ls (.int x :: st) Q := by
  intro p l e s m args below meth c H locs cells slots lc MC MS C hH hS hL h1 h2
  exact lv_tableOut C.1 C.2.1 hd h0 ht (k p l e s m args below meth c H locs cells slots lc MC MS C hH hS hL h1 h2)
theorem x_tableIn {df lo hi : Int} {offs : Array Int} {len : Nat} {x : Int32} {off : Int} {tgt : Nat} (hd : decode M.2.1 pc = .ok (.tableswitch df lo hi offs, len)) (h3 : ¬ x.toInt < lo) (h4 : ¬ hi < x.toInt) (ho : offs[(x.toInt - lo).toNat]? = some off) (ht : (pc : Int) + off = (tgt : Int)) (k : xV K M d cb sb h G tgt ls st Q) : xV K M d cb sb h G pc ls (.int x :: st) Q := by
  intro p l e s m args below meth c H locs cells slots lc MC MS C hH hS hL h1 h2
  exact lv_tableIn C.1 C.2.1 hd h3 h4 ho ht (k p l e s m args below meth c H locs cells slots lc MC MS C hH hS hL h1 h2)
theorem x_lookup {df : Int} {ps : Array (Int × Int)} {len : Nat} {x : Int32} {off : Int} {tgt : Nat} (hd : decode M.2.1 pc = .ok (.lookupswitch df ps, len)) (hp : (ps.toList.zip (ps.toList.drop 1)).all (fun (a, next) => a.1 < next.1) = true) (ho : Op.lookupswitch.offset ps.toList df x.toInt = off) (ht : (pc : Int) + off = (tgt : Int)) (k : xV K M d cb sb h G tgt ls st Q) : xV K M d cb sb h G pc ls (.int x :: st) Q := by
  intro p l e s m args below meth c H locs cells slots lc MC MS C hH hS hL h1 h2
  exact lv_lookup C.1 C.2.1 hd hp ho ht (k p l e s m args below meth c H locs cells slots lc MC MS C hH hS hL h1 h2)
theorem x_ifnull {r : Option Nat} {off : Int} {tgt : Nat} (hd : decode M.2.1 pc = .ok (.ifnull off, 3)) (ht : (pc : Int) + off = (tgt : Int)) (kt : r = none → xV K M d cb sb h G tgt ls st Q) (kf : ∀ y, r = some y → xV K M d cb sb h G (pc + 3) ls st Q) : xV K M d cb sb h G pc ls (va_rf r :: st) Q := by
  intro p l e s m args below meth c H locs cells slots lc MC MS C hH hS hL h1 h2
  cases r with
  | none => exact lv_ifnullN C.1 C.2.1 hd ht (kt rfl p l e s m args below meth c H locs cells slots lc MC MS C hH hS hL h1 h2)
  | some y => exact lv_ifnull C.1 C.2.1 hd (kf y rfl p l e s m args below meth c H locs cells slots lc MC MS C hH hS hL h1 h2)
theorem x_ifnonnull {r : Option Nat} {off : Int} {tgt : Nat} (hd : decode M.2.1 pc = .ok (.ifnonnull off, 3)) (ht : (pc : Int) + off = (tgt : Int)) (kt : ∀ y, r = some y → xV K M d cb sb h G tgt ls st Q) (kf : r = none → xV K M d cb sb h G (pc + 3) ls st Q) : xV K M d cb sb h G pc ls (va_rf r :: st) Q := by
  intro p l e s m args below meth c H locs cells slots lc MC MS C hH hS hL h1 h2
  cases r with
  | none => exact lv_ifnonnullN C.1 C.2.1 hd (kf rfl p l e s m args below meth c H locs cells slots lc MC MS C hH hS hL h1 h2)
  | some y => exact lv_ifnonnull C.1 C.2.1 hd ht (kt y rfl p l e s m args below meth c H locs cells slots lc MC MS C hH hS hL h1 h2)
theorem x_ldc {idx : Nat} {v : Int32} (hd : decode M.2.1 pc = .ok (.ldc idx, 2)) (hc : Cond.constant M.1.cls idx v ∈ xW) (k : xV K M d cb sb h G (pc + 2) ls (.int v :: st) Q) : xV K M d cb sb h G pc ls st Q := by
  intro p l e s m args below meth c H locs cells slots lc MC MS C hH hS hL h1 h2
  exact lv_ldc C.1 C.2.1 C.2.2.2.2.1 (C.2.2.2.2.2.1 _ hc) hd (k p l e s m args below meth c H locs cells slots lc MC MS C hH hS hL h1 h2)
theorem x_ldc2 {idx : Nat} {v : Int64} (hd : decode M.2.1 pc = .ok (.ldc2_w idx, 3)) (hc : Cond.constantLong M.1.cls idx v ∈ xW) (k : xV K M d cb sb h G (pc + 3) ls (.long v :: st) Q) : xV K M d cb sb h G pc ls st Q := by
  intro p l e s m args below meth c H locs cells slots lc MC MS C hH hS hL h1 h2
  exact lv_ldc2 C.1 C.2.1 C.2.2.2.2.1 (C.2.2.2.2.2.1 _ hc) hd (k p l e s m args below meth c H locs cells slots lc MC MS C hH hS hL h1 h2)
theorem x_ldcS {idx : Nat} (i : Nat) (hi : i < xs_n) (ho : xs_own i = M.1.cls) (hx : xs_idx i = idx) (hd : decode M.2.1 pc = .ok (.ldc idx, 2)) (k : xV K M d cb sb h G (pc + 2) ls (.ref (K.2.2.2.2.1 i) :: st) Q) : xV K M d cb sb h G pc ls st Q := by
  intro p l e s m args below meth c H locs cells slots lc MC MS C hH hS hL h1 h2
  subst hx
  have hz := (C.2.2.2.2.2.2.2.2.2.1 i hi).2.2.2.2
  rw [ho] at hz
  exact va_ldcS C.1 C.2.1 C.2.2.2.2.1 hz hd (k p l e s m args below meth c H locs cells slots lc MC MS C hH hS hL h1 h2)
end XB
