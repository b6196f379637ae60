/-! ===== what a minute does, over numbers ===== -/
abbrev xHl : Type := Nat → Nat → Nat
abbrev xRw : Type := Nat → Int32
/-- what joins two values: class's kinds of steps -/
def jn (k : Nat) (a b : Int64) : Int64 :=
  if k = 2 then a + b else if k = 3 then a - b else if k = 4 then a * b else if k = 5 then (if b = 0 then 0 else a / b) else if k = 6 then (if b = 0 then 0 else a - a / b * b)
  else if k = 7 then (if a < b then 1 else 0) else if k = 8 then (if a ≤ b then 1 else 0) else if k = 9 then (if a = b then 1 else 0) else if k = 10 then (if b ≤ a then 1 else 0) else if k = 11 then (if b < a then 1 else 0)
  else if k = 12 then a &&& b else a ||| b
def evC (wd : Nat → Int64) : List Nat → List Int64 → Int64
  | [], _ => 0
  | s :: ss, stk =>
    if s / 1048576 ≤ 1 then (if stk.length < 32 then evC wd ss ((if s / 1048576 = 0 then (nI (s % 1048576)).toInt64 else if s % 1048576 < 12 then wd (s % 1048576) else 0) :: stk) else evC wd ss stk)
    else if s / 1048576 = 14 then (match stk with
      | a :: r => evC wd ss ((1 - a) :: r)
      | [] => evC wd ss [])
    else if s / 1048576 = 15 then (match stk with
      | a :: _ => a
      | [] => 0)
    else if s / 1048576 = 16 then (match stk with
      | a :: b :: _ => if a ≠ 0 then b else evC wd ss []
      | _ => evC wd ss [])
    else (match stk with
      | b :: a :: r => evC wd ss (jn (s / 1048576) a b :: r)
      | _ => evC wd ss stk)
/-- the words of a mender and a thing -/
def bitsF (hl : xHl) (r : xRw) (how : Int32) : Nat → Int32
  | 0 => 0
  | t + 1 => if r (21 + t) = how then bitsF hl r how t ||| ((1 : Int32) <<< (nI t &&& 31)) else bitsF hl r how t
def bitsOf (hl : xHl) (r : xRw) (how : Int32) : Int32 := bitsF hl r how (hl 0 4)
def cntF (p : Nat → Bool) : Nat → Nat
  | 0 => 0
  | n + 1 => cntF p n + (if p n then 1 else 0)
def wordOf (hl : xHl) (r : xRw) (q t : Nat) (w : Nat) : Int64 :=
  if w = 0 then (nI q).toInt64 else if w = 1 then (nI t).toInt64 else if w = 2 then (nI (hl 4 t)).toInt64 else if w = 3 then (nI (hl 6 t)).toInt64
  else if w = 4 then (r 0 - nI (hl 5 t)).toInt64 else if w = 5 then (nI (hl 3 (q * 4 + hl 4 t) + hl 1 (hl 4 t))).toInt64 else if w = 6 then (nI (hl 7 t)).toInt64 else if w = 7 then (r (1 + hl 4 t)).toInt64
  else if w = 8 then (nI (cntF (fun t => decide (r (21 + t) = 1)) (hl 0 4))).toInt64 else if w = 9 then (nI (hl 0 0) - r 0).toInt64
  else if w = 10 then (nI (cntF (fun q => decide (r (5 + q) = -1)) (hl 0 3))).toInt64 else (nI (cntF (fun s => decide (0 < hl 3 (q * 4 + s))) (hl 0 2))).toInt64
def canT (hl : xHl) (r : xRw) (q t : Nat) : Bool := decide (r (21 + t) = 1 ∧ 0 < hl 3 (q * 4 + hl 4 t) ∧ (hl 7 t = 0 ∨ 0 < r (1 + hl 4 t)))
def keyOf (hl : xHl) (rv : Option (List Nat)) (r : xRw) (q t : Nat) : Int64 := match rv with
  | none => (nI 1000 - nI (hl 5 t)).toInt64
  | some sp => evC (wordOf hl r q t) sp []
def chF (p : Nat → Bool) (key : Nat → Int64) : Nat → Option Nat × Int64
  | 0 => (none, 0)
  | t + 1 => if p t = true ∧ (chF p key t).2 < key t then (some t, key t) else chF p key t
def choice (hl : xHl) (rv : Option (List Nat)) (r : xRw) (q : Nat) : Option Nat := (chF (canT hl r q) (keyOf hl rv r q) (hl 0 4)).1
def effS (hl : xHl) (q t : Nat) : Nat := hl 3 (q * 4 + hl 4 t) + hl 1 (hl 4 t)
def beginR (hl : xHl) (r : xRw) (q t : Nat) : xRw := upd (upd (upd (upd r (1 + hl 4 t) (r (1 + hl 4 t) - nI (hl 7 t))) (21 + t) (nI 2)) (5 + q) (nI t)) (9 + q) (nI (effS hl q t))
def takeS (hl : xHl) (rv : Option (List Nat)) (r : xRw) (q : Nat) : xRw := if r (5 + q) = -1 ∧ r (13 + q) = 0 then (match choice hl rv r q with
  | none => r
  | some t => beginR hl r q t) else r
def takeF (hl : xHl) (rv : Option (List Nat)) (r : xRw) : Nat → xRw
  | 0 => r
  | q + 1 => takeS hl rv (takeF hl rv r q) q
def cgV (hl : xHl) (mi : Int32) (t : Nat) (v : Int32) : Int32 :=
  if (if v = 0 ∧ nI (hl 5 t) = mi then 1 else v) = 1 then (if nI (hl 0 1) ≤ mi - nI (hl 5 t) ∨ nI (hl 0 0) ≤ mi then 4 else 1) else v
def comeGo (hl : xHl) (r : xRw) (n : Nat) : xRw := fun j => if 21 ≤ j ∧ j < 21 + n then cgV hl (r 0) (j - 21) (r j) else r j
/-- the thing's number behind a mender's word: -1 is none -/
def thN (m : Int32) : Nat := m.toInt.toNat
def workS (hl : xHl) (r : xRw) (q : Nat) : xRw :=
  if r (5 + q) = -1 then (if r 0 < nI (hl 0 0) then upd r (17 + q) (r (17 + q) + 1) else r)
  else if r (9 + q) - 1 = 0 then upd (upd (upd (upd r (9 + q) 0) (21 + thN (r (5 + q))) (nI 3)) (28 + thN (r (5 + q))) (r 0)) (5 + q) (-1)
  else upd r (9 + q) (r (9 + q) - 1)
def workM (r : xRw) (q : Nat) (m : Int32) : Int32 := if r (5 + q) = -1 then m else if r (9 + q) - 1 = 0 then m ||| ((1 : Int32) <<< (r (5 + q) &&& 31)) else m
def workF (hl : xHl) (r : xRw) : Nat → xRw × Int32
  | 0 => (r, 0)
  | q + 1 => (workS hl (workF hl r q).1 q, workM (workF hl r q).1 q (workF hl r q).2)
def cofS (r : xRw) (q : Nat) : xRw := if 0 < r (13 + q) then upd r (13 + q) (r (13 + q) - 1) else r
def cofF (r : xRw) : Nat → xRw
  | 0 => r
  | q + 1 => cofS (cofF r q) q
/-- a minute: the row behind it, the things mended in it -/
def goMin (hl : xHl) (rv : Option (List Nat)) (r : xRw) : xRw × Int32 :=
  let w := workF hl (takeF hl rv (comeGo hl r (hl 0 4)) (hl 0 3)) (hl 0 3)
  let c := cofF w.1 (hl 0 3)
  (upd c 0 (c 0 + 1), w.2)
def goN (hl : xHl) (rv : Option (List Nat)) (r : xRw) : Nat → xRw
  | 0 => r
  | n + 1 => (goMin hl rv (goN hl rv r n)).1
def savF (hl : xHl) (r : xRw) : Nat → Int32
  | 0 => 0
  | t + 1 => if r (21 + t) = 3 then savF hl r t + nI (hl 6 t) else savF hl r t
def savedS (hl : xHl) (r : xRw) : Int32 := savF hl r (hl 0 4)
def overB (hl : xHl) (r : xRw) : Bool := decide (∀ t, t < hl 0 4 → ¬ r (21 + t) < 3)
