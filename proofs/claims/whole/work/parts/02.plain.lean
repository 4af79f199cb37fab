/-! THE PLAIN MACHINE: values are whole numbers with a tag (0 int, 1 long, 2 reference, 3 nothing known); the memory is a number for each place of each cell; cells have numbers from 0 on, what stands before has numbers below -1; -1 is null. -/
abbrev gV : Type := Nat × Int
abbrev gM : Type := Int → Int → Int
abbrev gS : Type := Int → Nat × Nat
def gU (m : gM) (a i v : Int) : gM := fun a' i' => if a' = a ∧ i' = i then v else m a' i'
def okI (z : Int) : Prop := -2147483648 ≤ z ∧ z ≤ 2147483647
def okL (z : Int) : Prop := -9223372036854775808 ≤ z ∧ z ≤ 9223372036854775807
def iadd (a b : Int) : Int := (Int32.ofInt a + Int32.ofInt b).toInt
def isub (a b : Int) : Int := (Int32.ofInt a - Int32.ofInt b).toInt
def imul (a b : Int) : Int := (Int32.ofInt a * Int32.ofInt b).toInt
def idiv (a b : Int) : Int := (Int32.ofInt a / Int32.ofInt b).toInt
def irem (a b : Int) : Int := (Int32.ofInt a - Int32.ofInt a / Int32.ofInt b * Int32.ofInt b).toInt
def ineg (a : Int) : Int := (- Int32.ofInt a).toInt
def iand (a b : Int) : Int := (Int32.ofInt a &&& Int32.ofInt b).toInt
def ior (a b : Int) : Int := (Int32.ofInt a ||| Int32.ofInt b).toInt
def ishl (a b : Int) : Int := (Int32.ofInt a <<< (Int32.ofInt b &&& 31)).toInt
def ishr (a b : Int) : Int := (Int32.ofInt a >>> (Int32.ofInt b &&& 31)).toInt
def ladd (a b : Int) : Int := (Int64.ofInt a + Int64.ofInt b).toInt
def lsub (a b : Int) : Int := (Int64.ofInt a - Int64.ofInt b).toInt
def lmul (a b : Int) : Int := (Int64.ofInt a * Int64.ofInt b).toInt
def ldiv (a b : Int) : Int := (Int64.ofInt a / Int64.ofInt b).toInt
def lrem (a b : Int) : Int := (Int64.ofInt a - Int64.ofInt a / Int64.ofInt b * Int64.ofInt b).toInt
def lneg (a : Int) : Int := (- Int64.ofInt a).toInt
def land (a b : Int) : Int := (Int64.ofInt a &&& Int64.ofInt b).toInt
def lor (a b : Int) : Int := (Int64.ofInt a ||| Int64.ofInt b).toInt
def lshl (a b : Int) : Int := (Int64.ofInt a <<< ((Int32.ofInt b).toInt64 &&& 63)).toInt
def lcmp (a b : Int) : Int := if b < a then 1 else if a = b then 0 else -1
def l2i (a : Int) : Int := (Int64.ofInt a).toInt32.toInt
def i2b (a : Int) : Int := (Int32.ofInt a).toInt8.toInt32.toInt
def i2s (a : Int) : Int := (Int32.ofInt a).toInt16.toInt32.toInt
def i2c (a : Int) : Int := ((Int32.ofInt a).toUInt32 % 65536).toInt32.toInt
def lsgn (a : Int) : Int := if 0 < a then 1 else if a = 0 then 0 else -1
def iabs (a : Int) : Int := if 0 ≤ a then a else isub 0 a
def labs (a : Int) : Int := if 0 ≤ a then a else lneg a
def imax (a b : Int) : Int := if a < b then b else a
def imin (a b : Int) : Int := if b < a then b else a
theorem okI32 (x : Int32) : okI x.toInt := ⟨x.le_toInt, Int.le_of_lt_add_one x.toInt_lt⟩
theorem okL64 (x : Int64) : okL x.toInt := ⟨x.le_toInt, Int.le_of_lt_add_one x.toInt_lt⟩
theorem to32 {z : Int} (h : okI z) : (Int32.ofInt z).toInt = z := Int32.toInt_ofInt_of_le h.1 (by have := h.2; omega)
theorem to64 {z : Int} (h : okL z) : (Int64.ofInt z).toInt = z := Int64.toInt_ofInt_of_le h.1 (by have := h.2; omega)
theorem okIL {z : Int} (h : okI z) : okL z := ⟨by have := h.1; omega, by have := h.2; omega⟩
/-- the locals: a value at a slot -/
def gstA (i : Nat) (v : gV) : Nat → List gV → List gV
  | _, [] => []
  | k, w :: r => (if k = i then v else if k + 1 = i ∧ w.1 = 1 then (3, 0) else w) :: gstA i v (k + 1) r
def gstB (i : Nat) (v : gV) : Nat → List gV → List gV
  | _, [] => []
  | k, w :: r => (if k = i then v else if k = i + 1 then (3, 0) else if k + 1 = i ∧ w.1 = 1 then (3, 0) else w) :: gstB i v (k + 1) r
def gSp : List gV → List gV
  | [] => []
  | v :: r => if v.1 = 1 then v :: (3, 0) :: gSp r else v :: gSp r
def gEnt (args : List gV) (nL : Nat) : List gV := gSp args ++ List.replicate (nL - (gSp args).length) (3, 0)
def gCat (v : gV) : Nat := if v.1 = 1 then 2 else 1
/-- loads and stores of locals: length, tag, slot -/
def gLd (ins : Instr) : Option (Nat × Nat × Nat) := match ins with
  | .iload_n k => some (1, 0, k)
  | .iload k => some (2, 0, k)
  | .lload_n k => some (1, 1, k)
  | .lload k => some (2, 1, k)
  | .aload_n k => some (1, 2, k)
  | .aload k => some (2, 2, k)
  | _ => none
def gSt (ins : Instr) : Option (Nat × Nat × Nat) := match ins with
  | .istore_n k => some (1, 0, k)
  | .istore k => some (2, 0, k)
  | .astore_n k => some (1, 2, k)
  | .astore k => some (2, 2, k)
  | _ => none
def gStL (ins : Instr) : Option (Nat × Nat) := match ins with
  | .lstore_n k => some (1, k)
  | .lstore k => some (2, k)
  | _ => none
/-- two ints, two longs: what stands then -/
def gB32 (ins : Instr) : Option (Int → Int → Int) := match ins with
  | .iadd => some iadd
  | .isub => some isub
  | .imul => some imul
  | .iand => some iand
  | .ior => some ior
  | .ishl => some ishl
  | .ishr => some ishr
  | _ => none
def gB64 (ins : Instr) : Option (Int → Int → Int) := match ins with
  | .ladd => some ladd
  | .lsub => some lsub
  | .lmul => some lmul
  | .land => some land
  | .lor => some lor
  | _ => none
/-- one number: its tag, the answer's tag, the answer -/
def gUn (ins : Instr) : Option (Nat × Nat × (Int → Int)) := match ins with
  | .ineg => some (0, 0, ineg)
  | .lneg => some (1, 1, lneg)
  | .i2l => some (0, 1, fun z => z)
  | .l2i => some (1, 0, l2i)
  | .i2b => some (0, 0, i2b)
  | .i2s => some (0, 0, i2s)
  | .i2c => some (0, 0, i2c)
  | _ => none
def gCd (c : Jvm.ClassFile.Cond) (a b : Int) : Prop := match c with
  | .eq => a = b
  | .ne => a ≠ b
  | .lt => a < b
  | .ge => b ≤ a
  | .gt => b < a
  | .le => a ≤ b
/-- the classes' fields -/
def gFt (ci j : Nat) : FieldType := match ci with
  | 0 => tyX0 j
  | 1 => tyX1 j
  | 2 => tyX2 j
  | 3 => tyX3 j
  | 4 => tyX4 j
  | 5 => tyX5 j
  | 6 => tyX6 j
  | 7 => tyX7 j
  | _ => tyX8 j
def gNf (ci : Nat) : Nat := match ci with
  | 0 => 6
  | 1 => 16
  | 2 => 1
  | 3 => 16
  | 4 => 6
  | 5 => 4
  | 6 => 3
  | 7 => 7
  | _ => 42
def gTg (ty : FieldType) : Nat := match ty with
  | .long => 1
  | .object _ => 2
  | .array _ => 2
  | _ => 0
def gEt (k : Nat) : FieldType := match k with
  | 100 => .int
  | 101 => .long
  | 102 => .boolean
  | 103 => .array .int
  | 104 => .array .long
  | _ => .byte
def gTy (k j : Nat) : FieldType := if k < 9 then gFt k j else gEt k
def okT (ty : FieldType) (z : Int) : Prop := match ty with
  | .long => okL z
  | .boolean => z = 0 ∨ z = 1
  | .object _ => -1 ≤ z
  | .array _ => -1 ≤ z
  | _ => okI z
def gDf (ty : FieldType) : Int := if gTg ty = 2 then -1 else 0
def gNS (N : Nat) (S : gS) (sh : Nat × Nat) : gS := fun a => if a = (N : Int) then sh else S a
def gNM (N : Nat) (m : gM) (d : Int → Int) : gM := fun a i => if a = (N : Int) then d i else m a i
/-- reads and writes of the plain memory -/
def gF (S : gS) (m : gM) (ci : Nat) (j a : Int) : Option Int := if (S a).1 = ci then some (m a j) else none
def gA (S : gS) (m : gM) (kd : Nat) (a i : Int) : Option Int := if (S a).1 = kd ∧ 0 ≤ i ∧ i < ((S a).2 : Int) then some (m a i) else none
def gL (S : gS) (a : Int) : Option Int := if 100 ≤ (S a).1 ∧ (S a).1 ≤ 110 then some ((S a).2 : Int) else none
def pF (S : gS) (m : gM) (ci : Nat) (j a v : Int) : Option gM := if (S a).1 = ci then some (gU m a j v) else none
def pA (S : gS) (m : gM) (kd : Nat) (a i v : Int) : Option gM := if 0 ≤ a ∧ (S a).1 = kd ∧ 0 ≤ i ∧ i < ((S a).2 : Int) then some (gU m a i v) else none
def gCp (m : gM) (a i b j n : Int) : gM := fun a' i' => if a' = b ∧ j ≤ i' ∧ i' < j + n then m a (i + (i' - j)) else m a' i'
def pC (S : gS) (m : gM) (a i b j n : Int) : Option gM := if 0 ≤ a ∧ 0 ≤ b ∧ ((S a).1 = 100 ∨ (S a).1 = 101) ∧ (S b).1 = (S a).1 ∧ 0 ≤ i ∧ 0 ≤ j ∧ 0 ≤ n ∧ i + n ≤ ((S a).2 : Int) ∧ j + n ≤ ((S b).2 : Int) then some (gCp m a i b j n) else none
def gGd (p : Prop) [Decidable p] {α : Type} (x : Option α) : Option α := if p then x else none
/-- the words of all methods -/
def gAW : List Cond := lw_tbl.filter goodWord
theorem gAW_in {w : Cond} (h : w ∈ lw_tbl) (h2 : goodWord w = true) : w ∈ gAW := List.mem_filter.mpr ⟨h, h2⟩
theorem gAW_good : GoodIn gAW gAW := fun w h => ⟨h, good_of_word (List.mem_filter.mp h).2⟩
def gIsN : Cond → Bool
  | .fieldLinkNest .. => true
  | .methodLinkNest .. => true
  | _ => false
def gNW : List Cond := lw_tbl.filter gIsN
/-- a field that an instruction names: class number ci, field j -/
def gFok (own : String) (idx ci j : Nat) : Prop := ∃ (C : String) (T : u_T) (N : Nat), vwCl[ci]? = some (C, T, N) ∧ j < N ∧ (∀ w ∈ u_ws C T N, w ∈ gAW) ∧ (Cond.fieldLink own idx (T j).1 (T j).2.1 (T j).2.2.1) ∈ gAW
def gFokN (own : String) (idx ci j : Nat) : Prop := ∃ (C : String) (T : u_T) (N : Nat) (host : String), vwCl[ci]? = some (C, T, N) ∧ j < N ∧ (∀ w ∈ u_ws C T N, w ∈ gAW) ∧ (Cond.fieldLinkNest own idx (T j).1 (T j).2.1 (T j).2.2.1 host) ∈ gNW
/-- what a putfield wants besides: not final, or final in its own class' constructor -/
def gPok (own : String) (hi : Bool) (ci j : Nat) : Prop := ∃ (C : String) (T : u_T) (N : Nat), vwCl[ci]? = some (C, T, N) ∧ j < N ∧ N = gNf ci ∧ (∀ k, k < N → parseFieldDescriptor (T k).2.2.1 = some (gFt ci k)) ∧ (∀ a, a < N → ∀ b, b < N → a ≠ b → (T a).2.1 ≠ (T b).2.1) ∧ ((T j).2.2.2 = false ∨ ((T j).2.2.2 = true ∧ hi = true ∧ (T j).1 = own))
