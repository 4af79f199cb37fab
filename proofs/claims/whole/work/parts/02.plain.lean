/-! THE PLAIN MACHINE: a value is a whole number with a tag (0 int, 1 long, 2 reference, 3 nothing known). The world w: how many cells, how many places in all, each cell's kind and length, the references that cells hold; the memory m: the numbers that cells hold. Cells have numbers from 0 on, what stood before has numbers below -1; -1 is null. -/
abbrev gV : Type := Nat × Int
abbrev gM : Type := Int → Int → Int
abbrev gW : Type := Nat × Nat × (Int → Nat × Nat) × (Int → Int → Int)
def wS (w : gW) (a : Int) : Nat × Nat := w.2.2.1 a
def wP (w : gW) (a i : Int) : Int := w.2.2.2 a i
def gU (m : gM) (a i v : Int) : gM := fun a' i' => if a' = a ∧ i' = i then v else m a' i'
def okI (z : Int) : Prop := -2147483648 ≤ z ∧ z ≤ 2147483647
def okL (z : Int) : Prop := -9223372036854775808 ≤ z ∧ z ≤ 9223372036854775807
def iadd (a b : Int) : Int := (Int32.ofInt a + Int32.ofInt b).toInt
def isub (a b : Int) : Int := (Int32.ofInt a - Int32.ofInt b).toInt
def imul (a b : Int) : Int := (Int32.ofInt a * Int32.ofInt b).toInt
def idiv (a b : Int) : Int := (Int32.ofInt a / Int32.ofInt b).toInt
def irem (a b : Int) : Int := (Int32.ofInt a - Int32.ofInt a / Int32.ofInt b * Int32.ofInt b).toInt
def ineg (a : Int) : Int := (- Int32.ofInt a).toInt
def iand (a b : Int) : Int := (Int32.ofInt a &&& Int32.ofInt b).toInt
def ior (a b : Int) : Int := (Int32.ofInt a ||| Int32.ofInt b).toInt
def ishl (a b : Int) : Int := (Int32.ofInt a <<< (Int32.ofInt b &&& 31)).toInt
def ishr (a b : Int) : Int := (Int32.ofInt a >>> (Int32.ofInt b &&& 31)).toInt
def ladd (a b : Int) : Int := (Int64.ofInt a + Int64.ofInt b).toInt
def lsub (a b : Int) : Int := (Int64.ofInt a - Int64.ofInt b).toInt
def lmul (a b : Int) : Int := (Int64.ofInt a * Int64.ofInt b).toInt
def ldiv (a b : Int) : Int := (Int64.ofInt a / Int64.ofInt b).toInt
def lrem (a b : Int) : Int := (Int64.ofInt a - Int64.ofInt a / Int64.ofInt b * Int64.ofInt b).toInt
def lneg (a : Int) : Int := (- Int64.ofInt a).toInt
def land (a b : Int) : Int := (Int64.ofInt a &&& Int64.ofInt b).toInt
def lor (a b : Int) : Int := (Int64.ofInt a ||| Int64.ofInt b).toInt
def lshl (a b : Int) : Int := (Int64.ofInt a <<< ((Int32.ofInt b).toInt64 &&& 63)).toInt
def lshr (a b : Int) : Int := (Int64.ofInt a >>> ((Int32.ofInt b).toInt64 &&& 63)).toInt
def lushr (a b : Int) : Int := ((Int64.ofInt a).toUInt64 >>> ((Int32.ofInt b).toInt64.toUInt64 &&& Int64.toUInt64 63)).toInt64.toInt
def lcmp (a b : Int) : Int := if b < a then 1 else if a = b then 0 else -1
def l2i (a : Int) : Int := (Int64.ofInt a).toInt32.toInt
def i2b (a : Int) : Int := (Int32.ofInt a).toInt8.toInt32.toInt
def i2s (a : Int) : Int := (Int32.ofInt a).toInt16.toInt32.toInt
def i2c (a : Int) : Int := ((Int32.ofInt a).toUInt32 % 65536).toInt32.toInt
def iabs (a : Int) : Int := if 0 ≤ a then a else isub 0 a
def labs (a : Int) : Int := if 0 ≤ a then a else lneg a
def imax (a b : Int) : Int := if a < b then b else a
def imin (a b : Int) : Int := if b < a then b else a
theorem okI32 (x : Int32) : okI x.toInt := ⟨x.le_toInt, Int.le_of_lt_add_one x.toInt_lt⟩
theorem okL64 (x : Int64) : okL x.toInt := ⟨x.le_toInt, Int.le_of_lt_add_one x.toInt_lt⟩
theorem to32 {z : Int} (h : okI z) : (Int32.ofInt z).toInt = z := Int32.toInt_ofInt_of_le h.1 (by have := h.2; omega)
theorem to64 {z : Int} (h : okL z) : (Int64.ofInt z).toInt = z := Int64.toInt_ofInt_of_le h.1 (by have := h.2; omega)
theorem okIL {z : Int} (h : okI z) : okL z := ⟨by have := h.1; omega, by have := h.2; omega⟩
/-- the locals: a value at a slot -/
def gstA (i : Nat) (v : gV) : Nat → List gV → List gV
  | _, [] => []
  | k, w :: r => (if k = i then v else if k + 1 = i ∧ w.1 = 1 then (3, 0) else w) :: gstA i v (k + 1) r
def gstB (i : Nat) (v : gV) : Nat → List gV → List gV
  | _, [] => []
  | k, w :: r => (if k = i then v else if k = i + 1 then (3, 0) else if k + 1 = i ∧ w.1 = 1 then (3, 0) else w) :: gstB i v (k + 1) r
def gSp : List gV → List gV
  | [] => []
  | v :: r => if v.1 = 1 then v :: (3, 0) :: gSp r else v :: gSp r
def gEnt (args : List gV) (nL : Nat) : List gV := gSp args ++ List.replicate (nL - (gSp args).length) (3, 0)
def gCat (v : gV) : Nat := if v.1 = 1 then 2 else 1
def gCs (st : List gV) : Nat := (st.map gCat).sum
def gCd (c : Jvm.ClassFile.Cond) (a b : Int) : Bool := match c with
  | .eq => decide (a = b)
  | .ne => decide (a ≠ b)
  | .lt => decide (a < b)
  | .ge => decide (b ≤ a)
  | .gt => decide (b < a)
  | .le => decide (a ≤ b)
/-- the classes' fields -/
def gFt (ci j : Nat) : FieldType := match ci with
  | 0 => tyX0 j
  | 1 => tyX1 j
  | 2 => tyX2 j
  | 3 => tyX3 j
  | 4 => tyX4 j
  | 5 => tyX5 j
  | 6 => tyX6 j
  | 7 => tyX7 j
  | _ => tyX8 j
def gNf (ci : Nat) : Nat := match ci with
  | 0 => 6
  | 1 => 16
  | 2 => 1
  | 3 => 16
  | 4 => 6
  | 5 => 4
  | 6 => 3
  | 7 => 7
  | _ => 42
def gTg (ty : FieldType) : Nat := match ty with
  | .long => 1
  | .object _ => 2
  | .array _ => 2
  | _ => 0
def gEt (k : Nat) : FieldType := match k with
  | 100 => .int
  | 101 => .long
  | 102 => .boolean
  | 103 => .array .int
  | 104 => .array .long
  | _ => .byte
/-- a number that a place of that type may hold -/
def okT (ty : FieldType) (z : Int) : Prop := match ty with
  | .long => okL z
  | .boolean => z = 0 ∨ z = 1
  | _ => okI z
/-- new cells; writes -/
def wNew (w : gW) (kd n : Nat) : gW := (w.1 + 1, w.2.1 + n, fun a => if a = (w.1 : Int) then (kd, n) else wS w a, fun a i => if a = (w.1 : Int) then -1 else wP w a i)
def mNew (w : gW) (m : gM) : gM := fun a i => if a = (w.1 : Int) then 0 else m a i
def wGrid (w : gW) (kd n k : Nat) : gW := (w.1 + 1 + n, w.2.1 + n + n * k, fun a => if a = (w.1 : Int) then (kd + 3, n) else if (w.1 : Int) < a ∧ a ≤ (w.1 : Int) + n then (kd, k) else wS w a, fun a i => if a = (w.1 : Int) then (if 0 ≤ i ∧ i < n then (w.1 : Int) + 1 + i else -1) else if (w.1 : Int) < a ∧ a ≤ (w.1 : Int) + n then -1 else wP w a i)
def mGrid (w : gW) (m : gM) (n : Nat) : gM := fun a i => if (w.1 : Int) ≤ a ∧ a ≤ (w.1 : Int) + n then 0 else m a i
def wPut (w : gW) (a i v : Int) : gW := (w.1, w.2.1, w.2.2.1, gU w.2.2.2 a i v)
def gCp (m : gM) (a i b j n : Int) : gM := fun a' i' => if a' = b ∧ j ≤ i' ∧ i' < j + n then m a (i + (i' - j)) else m a' i'
def gSgn (a : Int) : Int := if 0 < a then 1 else if a = 0 then 0 else -1
