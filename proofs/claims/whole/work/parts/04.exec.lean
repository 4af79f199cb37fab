/-! THE PLAIN MACHINE'S STEPS. d: how deep calls may still go; the places at a step: where, the locals, the stack, the world, the memory. -/
abbrev gX : Type := Nat × List gV × List gV × gW × gM
def yO (Y : gY) : Nat := Y.1
def yN (Y : gY) : MethodName := Y.2.1
def yC (Y : gY) : ByteArray := Y.2.2.1
def yL (Y : gY) : Nat := Y.2.2.2.1
def yH (Y : gY) : Bool := Y.2.2.2.2.1
def yR (Y : gY) : Option FieldType := Y.2.2.2.2.2
def xLd (pc len t i : Nat) (ls st : List gV) (w : gW) (m : gM) : Option gX := match ls[i]? with
  | some v => if v.1 = t then some (pc + len, ls, v :: st, w, m) else none
  | none => none
def xSt (pc len t i nL : Nat) (ls st : List gV) (w : gW) (m : gM) : Option gX := match st with
  | v :: st' => if v.1 = t ∧ i < nL then some (pc + len, gstA i v 0 ls, st', w, m) else none
  | [] => none
def xStL (pc len i nL : Nat) (ls st : List gV) (w : gW) (m : gM) : Option gX := match st with
  | v :: st' => if v.1 = 1 ∧ i + 1 < nL then some (pc + len, gstB i v 0 ls, st', w, m) else none
  | [] => none
def xInc (pc i : Nat) (c : Int) (nL : Nat) (ls st : List gV) (w : gW) (m : gM) : Option gX := match ls[i]? with
  | some v => if v.1 = 0 ∧ i < nL then some (pc + 3, gstA i (0, iadd v.2 c) 0 ls, st, w, m) else none
  | none => none
/-- two numbers of a tag: one of another -/
def xBi (pc t u : Nat) (f : Int → Int → Int) (ls st : List gV) (w : gW) (m : gM) : Option gX := match st with
  | b :: a :: st' => if b.1 = t ∧ a.1 = t then some (pc + 1, ls, (u, f a.2 b.2) :: st', w, m) else none
  | _ => none
def xDv (pc t : Nat) (f : Int → Int → Int) (ls st : List gV) (w : gW) (m : gM) : Option gX := match st with
  | b :: a :: st' => if b.1 = t ∧ a.1 = t ∧ b.2 ≠ 0 then some (pc + 1, ls, (t, f a.2 b.2) :: st', w, m) else none
  | _ => none
def xUn (pc t u : Nat) (f : Int → Int) (ls st : List gV) (w : gW) (m : gM) : Option gX := match st with
  | a :: st' => if a.1 = t then some (pc + 1, ls, (u, f a.2) :: st', w, m) else none
  | _ => none
def xShl (pc : Nat) (f : Int → Int → Int) (ls st : List gV) (w : gW) (m : gM) : Option gX := match st with
  | b :: a :: st' => if b.1 = 0 ∧ a.1 = 1 then some (pc + 1, ls, (1, f a.2 b.2) :: st', w, m) else none
  | _ => none
def xPu (pc len : Nat) (v : gV) (ls st : List gV) (w : gW) (m : gM) : Option gX := some (pc + len, ls, v :: st, w, m)
def xPuC (pc len t : Nat) (q : Option gV) (ls st : List gV) (w : gW) (m : gM) : Option gX := match q with
  | some v => if v.1 = t ∨ (t = 0 ∧ v.1 = 2) then some (pc + len, ls, v :: st, w, m) else none
  | none => none
def xPuW (pc len : Nat) (q : Option gV) (ls st : List gV) (w : gW) (m : gM) : Option gX := match q with
  | some v => if v.1 = 0 then some (pc + len, ls, v :: st, w, m) else none
  | none => none
def xDup (pc : Nat) (ls st : List gV) (w : gW) (m : gM) : Option gX := match st with
  | v :: st' => if v.1 = 1 then none else some (pc + 1, ls, v :: v :: st', w, m)
  | [] => none
def xDup2 (pc : Nat) (ls st : List gV) (w : gW) (m : gM) : Option gX := match st with
  | v :: st' => if v.1 = 1 then some (pc + 1, ls, v :: v :: st', w, m) else match st' with
    | u :: st2 => if u.1 = 1 then none else some (pc + 1, ls, v :: u :: v :: u :: st2, w, m)
    | [] => none
  | [] => none
def xPop (pc : Nat) (ls st : List gV) (w : gW) (m : gM) : Option gX := match st with
  | v :: st' => if v.1 = 1 then none else some (pc + 1, ls, st', w, m)
  | [] => none
def xPop2 (pc : Nat) (ls st : List gV) (w : gW) (m : gM) : Option gX := match st with
  | v :: st' => if v.1 = 1 then some (pc + 1, ls, st', w, m) else none
  | [] => none
def xJmp (pc : Nat) (off : Int) (ls st : List gV) (w : gW) (m : gM) : Option gX := if 0 ≤ (pc : Int) + off then some (((pc : Int) + off).toNat, ls, st, w, m) else none
def xIf (pc : Nat) (c : Jvm.ClassFile.Cond) (off : Int) (ls st : List gV) (w : gW) (m : gM) : Option gX := match st with
  | a :: st' => if a.1 = 0 ∧ 0 ≤ (pc : Int) + off then (if gCd c a.2 0 = true then some (((pc : Int) + off).toNat, ls, st', w, m) else some (pc + 3, ls, st', w, m)) else none
  | _ => none
def xIc (pc : Nat) (c : Jvm.ClassFile.Cond) (off : Int) (ls st : List gV) (w : gW) (m : gM) : Option gX := match st with
  | b :: a :: st' => if b.1 = 0 ∧ a.1 = 0 ∧ 0 ≤ (pc : Int) + off then (if gCd c a.2 b.2 = true then some (((pc : Int) + off).toNat, ls, st', w, m) else some (pc + 3, ls, st', w, m)) else none
  | _ => none
def xTs (pc : Nat) (dflt lo hi : Int) (offs : Array Int) (ls st : List gV) (w : gW) (m : gM) : Option gX := match st with
  | a :: st' => if a.1 = 0 then (if lo ≤ a.2 ∧ a.2 ≤ hi then (match offs[(a.2 - lo).toNat]? with | some off => xJmp pc off ls st' w m | none => none) else xJmp pc dflt ls st' w m) else none
  | _ => none
def xLk (pc : Nat) (dflt : Int) (ps : Array (Int × Int)) (ls st : List gV) (w : gW) (m : gM) : Option gX := match st with
  | a :: st' => if a.1 = 0 ∧ (ps.toList.zip (ps.toList.drop 1)).all (fun (a, next) => a.1 < next.1) = true then xJmp pc (Op.lookupswitch.offset ps.toList dflt a.2) ls st' w m else none
  | _ => none
def xGf (Y : gY) (pc idx : Nat) (ls st : List gV) (w : gW) (m : gM) : Option gX := match st with
  | a :: st' => (match tF (yO Y) idx with
    | some q => if a.1 = 2 ∧ (wS w a.2).1 = q.1 then some (pc + 3, ls, (gTg (gFt q.1 q.2), if gTg (gFt q.1 q.2) = 2 then wP w a.2 q.2 else m a.2 q.2) :: st', w, m) else none
    | none => match tSf (yO Y) idx with
      | some j => if a.1 = 2 ∧ (wS w a.2).1 = 120 then some (pc + 3, ls, (if j = 0 then (2, wP w a.2 j) else (0, m a.2 j)) :: st', w, m) else none
      | none => none)
  | _ => none
def gFin (ci j : Nat) : Bool := match vwCl[ci]? with
  | some (_, T, _) => (T j).2.2.2
  | none => true
def xPf (Y : gY) (pc idx : Nat) (ls st : List gV) (w : gW) (m : gM) : Option gX := match st with
  | v :: a :: st' => (match tF (yO Y) idx with
    | some q => if a.1 = 2 ∧ 0 ≤ a.2 ∧ (wS w a.2).1 = q.1 ∧ v.1 = gTg (gFt q.1 q.2) ∧ (gFin q.1 q.2 = false ∨ (yH Y = true ∧ q.1 = yO Y)) then
        (if gTg (gFt q.1 q.2) = 2 then (if -1 ≤ v.2 then some (pc + 3, ls, st', wPut w a.2 q.2 v.2, m) else none)
          else if gFt q.1 q.2 = .boolean then (if v.2 = 0 ∨ v.2 = 1 then some (pc + 3, ls, st', w, gU m a.2 q.2 v.2) else none)
          else some (pc + 3, ls, st', w, gU m a.2 q.2 v.2)) else none
    | none => none)
  | _ => none
def xGs (Y : gY) (pc idx : Nat) (ls st : List gV) (w : gW) (m : gM) : Option gX := match tG (yO Y) idx with
  | some v => if v.1 = 4 then some (pc + 3, ls, (2, wP w (-1) v.2) :: st, w, m) else some (pc + 3, ls, v :: st, w, m)
  | none => none
/-- places of rows: kind, tag -/
def xAl (pc kd t : Nat) (ls st : List gV) (w : gW) (m : gM) : Option gX := match st with
  | i :: a :: st' => if i.1 = 0 ∧ a.1 = 2 ∧ (wS w a.2).1 = kd ∧ 0 ≤ i.2 ∧ i.2 < ((wS w a.2).2 : Int) then some (pc + 1, ls, (t, m a.2 i.2) :: st', w, m) else none
  | _ => none
def xBl (pc : Nat) (ls st : List gV) (w : gW) (m : gM) : Option gX := match st with
  | i :: a :: st' => if i.1 = 0 ∧ a.1 = 2 ∧ ((wS w a.2).1 = 102 ∨ (wS w a.2).1 = 110) ∧ 0 ≤ i.2 ∧ i.2 < ((wS w a.2).2 : Int) then some (pc + 1, ls, (0, m a.2 i.2) :: st', w, m) else none
  | _ => none
def xAa (pc : Nat) (ls st : List gV) (w : gW) (m : gM) : Option gX := match st with
  | i :: a :: st' => if i.1 = 0 ∧ a.1 = 2 ∧ ((wS w a.2).1 = 103 ∨ (wS w a.2).1 = 104) ∧ 0 ≤ i.2 ∧ i.2 < ((wS w a.2).2 : Int) then some (pc + 1, ls, (2, wP w a.2 i.2) :: st', w, m) else none
  | _ => none
def xAs (pc kd t : Nat) (ls st : List gV) (w : gW) (m : gM) : Option gX := match st with
  | v :: i :: a :: st' => if v.1 = t ∧ i.1 = 0 ∧ a.1 = 2 ∧ 0 ≤ a.2 ∧ (wS w a.2).1 = kd ∧ 0 ≤ i.2 ∧ i.2 < ((wS w a.2).2 : Int) ∧ (kd = 102 → v.2 = 0 ∨ v.2 = 1) then some (pc + 1, ls, st', w, gU m a.2 i.2 v.2) else none
  | _ => none
def xLen (pc : Nat) (ls st : List gV) (w : gW) (m : gM) : Option gX := match st with
  | a :: st' => if a.1 = 2 ∧ 100 ≤ (wS w a.2).1 ∧ (wS w a.2).1 ≤ 110 then some (pc + 1, ls, (0, ((wS w a.2).2 : Int)) :: st', w, m) else none
  | _ => none
def xNew (Y : gY) (pc idx : Nat) (ls st : List gV) (w : gW) (m : gM) : Option gX := match tN (yO Y) idx with
  | some ci => some (pc + 3, ls, (2, (w.1 : Int)) :: st, wNew w ci (gNf ci), mNew w m)
  | none => none
def xNa (pc : Nat) (at0 : ArrayType) (ls st : List gV) (w : gW) (m : gM) : Option gX := match st with
  | n :: st' => if n.1 = 0 ∧ 0 ≤ n.2 ∧ n.2 ≤ 100000 then (match at0 with
      | .int => some (pc + 2, ls, (2, (w.1 : Int)) :: st', wNew w 100 n.2.toNat, mNew w m)
      | .long => some (pc + 2, ls, (2, (w.1 : Int)) :: st', wNew w 101 n.2.toNat, mNew w m)
      | .boolean => some (pc + 2, ls, (2, (w.1 : Int)) :: st', wNew w 102 n.2.toNat, mNew w m)
      | _ => none) else none
  | _ => none
def xMa (Y : gY) (pc idx : Nat) (ls st : List gV) (w : gW) (m : gM) : Option gX := match st with
  | k :: n :: st' => (match tA (yO Y) idx with
    | some kd => if n.1 = 0 ∧ k.1 = 0 ∧ 0 ≤ n.2 ∧ n.2 ≤ 100000 ∧ 0 ≤ k.2 ∧ k.2 ≤ 100000 then some (pc + 4, ls, (2, (w.1 : Int)) :: st', wGrid w kd n.2.toNat k.2.toNat, mGrid w m n.2.toNat) else none
    | none => none)
  | _ => none
def xCp (pc : Nat) (ls st : List gV) (w : gW) (m : gM) : Option gX := match st with
  | n :: j :: b :: i :: a :: st' => if n.1 = 0 ∧ j.1 = 0 ∧ b.1 = 2 ∧ i.1 = 0 ∧ a.1 = 2 ∧ 0 ≤ a.2 ∧ 0 ≤ b.2 ∧ ((wS w a.2).1 = 100 ∨ (wS w a.2).1 = 101) ∧ (wS w b.2).1 = (wS w a.2).1 ∧ 0 ≤ i.2 ∧ 0 ≤ j.2 ∧ 0 ≤ n.2 ∧ i.2 + n.2 ≤ ((wS w a.2).2 : Int) ∧ j.2 + n.2 ≤ ((wS w b.2).2 : Int) ∧ gCs st' ≤ 8 then some (pc + 3, ls, st', w, gCp m a.2 i.2 b.2 j.2 n.2) else none
  | _ => none
def xB8 (pc t u : Nat) (f : Int → Int → Int) (ls st : List gV) (w : gW) (m : gM) : Option gX := match st with
  | b :: a :: st' => if b.1 = t ∧ a.1 = t ∧ gCs st' ≤ 8 then some (pc + 3, ls, (u, f a.2 b.2) :: st', w, m) else none
  | _ => none
def xU8 (pc t u : Nat) (f : Int → Int) (ls st : List gV) (w : gW) (m : gM) : Option gX := match st with
  | a :: st' => if a.1 = t ∧ gCs st' ≤ 8 then some (pc + 3, ls, (u, f a.2) :: st', w, m) else none
  | _ => none
def xSt9 (Y : gY) (pc idx : Nat) (ls st : List gV) (w : gW) (m : gM) : Option gX := match tI (yO Y) idx with
  | some 11 => xB8 pc 0 0 imax ls st w m
  | some 12 => xB8 pc 0 0 imin ls st w m
  | some 13 => xU8 pc 0 0 iabs ls st w m
  | some 14 => xB8 pc 1 1 imax ls st w m
  | some 15 => xB8 pc 1 1 imin ls st w m
  | some 16 => xU8 pc 1 1 labs ls st w m
  | some 17 => xCp pc ls st w m
  | some 18 => xU8 pc 1 0 gSgn ls st w m
  | _ => none
def xOb (Y : gY) (pc idx : Nat) (ls st : List gV) (w : gW) (m : gM) : Option gX := match st with
  | a :: st' => (match tI (yO Y) idx with
    | some k => if k = 19 ∧ a.1 = 2 ∧ 0 ≤ a.2 ∧ gCs st' ≤ 8 then some (pc + 3, ls, st', w, m) else none
    | none => none)
  | _ => none
/-- an instruction that is no call of ours and no return -/
def gIns0 (Y : gY) (pc len : Nat) (ins : Instr) (ls st : List gV) (w : gW) (m : gM) : Option gX := match ins with
  | .iload_n k => xLd pc len 0 k.val ls st w m
  | .iload k => xLd pc len 0 k ls st w m
  | .lload_n k => xLd pc len 1 k.val ls st w m
  | .lload k => xLd pc len 1 k ls st w m
  | .aload_n k => xLd pc len 2 k.val ls st w m
  | .aload k => xLd pc len 2 k ls st w m
  | .istore_n k => xSt pc len 0 k.val (yL Y) ls st w m
  | .istore k => xSt pc len 0 k (yL Y) ls st w m
  | .astore_n k => xSt pc len 2 k.val (yL Y) ls st w m
  | .astore k => xSt pc len 2 k (yL Y) ls st w m
  | .lstore_n k => xStL pc len k.val (yL Y) ls st w m
  | .lstore k => xStL pc len k (yL Y) ls st w m
  | .iinc i c => if len = 3 then xInc pc i c (yL Y) ls st w m else none
  | .iadd => xBi pc 0 0 iadd ls st w m
  | .isub => xBi pc 0 0 isub ls st w m
  | .imul => xBi pc 0 0 imul ls st w m
  | .iand => xBi pc 0 0 iand ls st w m
  | .ior => xBi pc 0 0 ior ls st w m
  | .ishl => xBi pc 0 0 ishl ls st w m
  | .ishr => xBi pc 0 0 ishr ls st w m
  | .ladd => xBi pc 1 1 ladd ls st w m
  | .lsub => xBi pc 1 1 lsub ls st w m
  | .lmul => xBi pc 1 1 lmul ls st w m
  | .land => xBi pc 1 1 land ls st w m
  | .lor => xBi pc 1 1 lor ls st w m
  | .lcmp => xBi pc 1 0 lcmp ls st w m
  | .idiv => xDv pc 0 idiv ls st w m
  | .irem => xDv pc 0 irem ls st w m
  | .ldiv => xDv pc 1 ldiv ls st w m
  | .lrem => xDv pc 1 lrem ls st w m
  | .ineg => xUn pc 0 0 ineg ls st w m
  | .lneg => xUn pc 1 1 lneg ls st w m
  | .i2l => xUn pc 0 1 (fun z => z) ls st w m
  | .l2i => xUn pc 1 0 l2i ls st w m
  | .i2b => xUn pc 0 0 i2b ls st w m
  | .i2s => xUn pc 0 0 i2s ls st w m
  | .i2c => xUn pc 0 0 i2c ls st w m
  | .lshl => xShl pc lshl ls st w m
  | .iconst z => if -1 ≤ z ∧ z ≤ 5 then xPu pc 1 (0, z) ls st w m else none
  | .bipush z => if -128 ≤ z ∧ z ≤ 127 then xPu pc 2 (0, z) ls st w m else none
  | .sipush z => if -32768 ≤ z ∧ z ≤ 32767 then xPu pc 3 (0, z) ls st w m else none
  | .lconst f => xPu pc 1 (1, (f.val : Int)) ls st w m
  | .ldc idx => if len = 2 then xPuC pc 2 0 (tC (yO Y) idx) ls st w m else none
  | .ldc_w idx => if len = 3 then xPuW pc 3 (tC (yO Y) idx) ls st w m else none
  | .ldc2_w idx => if len = 3 then xPuC pc 3 1 (tC (yO Y) idx) ls st w m else none
  | .dup => xDup pc ls st w m
  | .dup2 => xDup2 pc ls st w m
  | .pop => xPop pc ls st w m
  | .pop2 => xPop2 pc ls st w m
  | .goto off => xJmp pc off ls st w m
  | .ifCond c off => xIf pc c off ls st w m
  | .if_icmp c off => xIc pc c off ls st w m
  | .tableswitch dflt lo hi offs => xTs pc dflt lo hi offs ls st w m
  | .lookupswitch dflt ps => xLk pc dflt ps ls st w m
  | .getfield idx => xGf Y pc idx ls st w m
  | .putfield idx => xPf Y pc idx ls st w m
  | .getstatic idx => xGs Y pc idx ls st w m
  | .iaload => xAl pc 100 0 ls st w m
  | .laload => xAl pc 101 1 ls st w m
  | .baload => xBl pc ls st w m
  | .aaload => xAa pc ls st w m
  | .iastore => xAs pc 100 0 ls st w m
  | .lastore => xAs pc 101 1 ls st w m
  | .bastore => xAs pc 102 0 ls st w m
  | .arraylength => xLen pc ls st w m
  | .new idx => xNew Y pc idx ls st w m
  | .newarray at0 => xNa pc at0 ls st w m
  | .multianewarray idx k => if k = 2 then xMa Y pc idx ls st w m else none
  | .invokestatic idx => xSt9 Y pc idx ls st w m
  | .invokespecial idx => xOb Y pc idx ls st w m
  | _ => none
/-- how long an instruction is -/
def gLk (ins : Instr) (n : Nat) : Bool := match ins with
  | .iload _ => n == 2
  | .lload _ => n == 2
  | .aload _ => n == 2
  | .istore _ => n == 2
  | .lstore _ => n == 2
  | .astore _ => n == 2
  | .bipush _ => n == 2
  | .ldc _ => n == 2
  | .newarray _ => n == 2
  | .iinc _ _ => n == 3
  | .sipush _ => n == 3
  | .ldc_w _ => n == 3
  | .ldc2_w _ => n == 3
  | .goto _ => n == 3
  | .ifCond _ _ => n == 3
  | .if_icmp _ _ => n == 3
  | .getfield _ => n == 3
  | .putfield _ => n == 3
  | .getstatic _ => n == 3
  | .new _ => n == 3
  | .invokestatic _ => n == 3
  | .invokespecial _ => n == 3
  | .multianewarray _ _ => n == 4
  | .tableswitch _ _ _ _ => true
  | .lookupswitch _ _ => true
  | _ => n == 1
def gIns (Y : gY) (pc len : Nat) (ins : Instr) (ls st : List gV) (w : gW) (m : gM) : Option gX := if gLk ins len = true then gIns0 Y pc len ins ls st w m else none
def gRet (Y : gY) (ins : Instr) (st : List gV) : Option (Option gV) := match ins with
  | .return_ => (match st with
    | [] => if yR Y = none then some none else none
    | _ => none)
  | .ireturn => (match st with
    | [v] => if v.1 = 0 ∧ (yR Y = some .int ∨ (yR Y = some .boolean ∧ (v.2 = 0 ∨ v.2 = 1)) ∨ (yR Y = some .byte ∧ -128 ≤ v.2 ∧ v.2 ≤ 127) ∨ (yR Y = some .char ∧ 0 ≤ v.2 ∧ v.2 ≤ 65535)) then some (some v) else none
    | _ => none)
  | .lreturn => (match st with
    | [v] => if v.1 = 1 ∧ yR Y = some .long then some (some v) else none
    | _ => none)
  | .areturn => (match st with
    | [v] => if v.1 = 2 ∧ yR Y = some (.object "java/lang/String") then some (some v) else none
    | _ => none)
  | _ => none
/-- what a call takes: the callee, what it is given, what is left -/
def gCal (Y : gY) (ins : Instr) (st : List gV) (w : gW) : Option (gY × List gV × List gV) := match ins with
  | .invokestatic idx => (match tM (yO Y) idx with
    | some q => if q.1 = 0 ∧ q.2.1 ≤ st.length ∧ gCs (st.drop q.2.1) ≤ 16 ∧ (gSp (st.take q.2.1).reverse).length ≤ yL q.2.2 then some (q.2.2, (st.take q.2.1).reverse, st.drop q.2.1) else none
    | none => none)
  | .invokevirtual idx => (match tM (yO Y) idx with
    | some q => (match st.drop q.2.1 with
      | a :: st' => if q.1 = 1 ∧ a.1 = 2 ∧ ((wS w a.2).1 = yO q.2.2 ∧ yO q.2.2 < 9 ∨ (wS w a.2).1 = 120 ∧ yO q.2.2 = 10) ∧ q.2.1 ≤ st.length ∧ gCs st' ≤ 16 ∧ (gSp (a :: (st.take q.2.1).reverse)).length ≤ yL q.2.2 then some (q.2.2, a :: (st.take q.2.1).reverse, st') else none
      | [] => none)
    | none => none)
  | .invokespecial idx => (match tM (yO Y) idx with
    | some q => (match st.drop q.2.1 with
      | a :: st' => if q.1 = 2 ∧ a.1 = 2 ∧ 0 ≤ a.2 ∧ q.2.1 ≤ st.length ∧ gCs st' ≤ 16 ∧ (gSp (a :: (st.take q.2.1).reverse)).length ≤ yL q.2.2 then some (q.2.2, a :: (st.take q.2.1).reverse, st') else none
      | [] => none)
    | none => none)
  | _ => none
def exec : Nat → Nat → gY → Nat → List gV → List gV → gW → gM → Option (Option gV × gW × gM)
  | 0, _, _, _, _, _, _, _ => none
  | n + 1, d, Y, pc, ls, st, w, m => match decode (yC Y) pc with
    | .error _ => none
    | .ok q => match gIns Y pc q.2 q.1 ls st w m with
      | some x => exec n d Y x.1 x.2.1 x.2.2.1 x.2.2.2.1 x.2.2.2.2
      | none => match gRet Y q.1 st with
        | some r => if q.2 = 1 then some (r, w, m) else none
        | none => match gCal Y q.1 st w with
          | some c => if q.2 = 3 then (match d with
            | 0 => none
            | d + 1 => match exec n d c.1 0 (gEnt c.2.1 (yL c.1)) [] w m with
              | some r => exec n (d + 1) Y (pc + 3) ls (r.1.toList ++ c.2.2) r.2.1 r.2.2
              | none => none) else none
          | none => none
/-- the machine comes from there to an end with K -/
def R (d : Nat) (Y : gY) (pc : Nat) (ls st : List gV) (w : gW) (m : gM) (K : Option gV → gW → gM → Prop) : Prop := ∃ (n : Nat) (r : Option gV × gW × gM), exec n d Y pc ls st w m = some r ∧ K r.1 r.2.1 r.2.2
def C (d : Nat) (Y : gY) (As : List gV) (w : gW) (m : gM) (K : Option gV → gW → gM → Prop) : Prop := match d with
  | 0 => False
  | d + 1 => R d Y 0 (gEnt As (yL Y)) [] w m K
theorem exec_le : ∀ (n k d : Nat) (Y : gY) (pc : Nat) (ls st : List gV) (w : gW) (m : gM) (r : Option gV × gW × gM), exec n d Y pc ls st w m = some r → exec (n + k) d Y pc ls st w m = some r := by
  intro n
  induction n with
  | zero => intro k d Y pc ls st w m r h; simp [exec] at h
  | succ n ih =>
    intro k d Y pc ls st w m r h
    rw [Nat.succ_add]
    rw [exec] at h ⊢
    split at h
    · exact absurd h (by simp)
    · rename_i q hq
      split at h
      · rename_i x hx
        exact ih k _ _ _ _ _ _ _ _ h
      · split at h
        · exact h
        · split at h
          · rename_i c hc
            split at h
            · rename_i h3
              rw [if_pos h3]
              split at h
              · exact absurd h (by simp)
              · rename_i d
                split at h
                · rename_i r1 hr
                  try dsimp only
                  rw [ih k _ _ _ _ _ _ _ _ hr]
                  exact ih k _ _ _ _ _ _ _ _ h
                · exact absurd h (by simp)
            · exact absurd h (by simp)
          · exact absurd h (by simp)
theorem exec_one {n n2 d : Nat} {Y : gY} {pc : Nat} {ls st : List gV} {w : gW} {m : gM} {r r2 : Option gV × gW × gM} (h : exec n d Y pc ls st w m = some r) (h2 : exec n2 d Y pc ls st w m = some r2) : r = r2 := by
  have a := exec_le n n2 d Y pc ls st w m r h
  have b := exec_le n2 n d Y pc ls st w m r2 h2
  rw [Nat.add_comm] at b
  exact Option.some.inj (a.symm.trans b)
section RULES
variable {d pc : Nat} {Y : gY} {ls st : List gV} {w : gW} {m : gM} {K : Option gV → gW → gM → Prop}
theorem R_K {K2 : Option gV → gW → gM → Prop} (h : R d Y pc ls st w m K) (hk : ∀ r w' m', K r w' m' → K2 r w' m') : R d Y pc ls st w m K2 := by
  obtain ⟨n, r, h1, h2⟩ := h
  exact ⟨n, r, h1, hk _ _ _ h2⟩
theorem C_K {As : List gV} {K2 : Option gV → gW → gM → Prop} (h : C d Y As w m K) (hk : ∀ r w' m', K r w' m' → K2 r w' m') : C d Y As w m K2 := by
  cases d with
  | zero => exact h.elim
  | succ d => exact R_K h hk
theorem R_go {ins : Instr} {len : Nat} {x : gX} (hd : decode (yC Y) pc = .ok (ins, len)) (h : gIns Y pc len ins ls st w m = some x) : R d Y pc ls st w m K = R d Y x.1 x.2.1 x.2.2.1 x.2.2.2.1 x.2.2.2.2 K := by
  apply propext
  constructor
  · rintro ⟨n, r, h1, h2⟩
    cases n with
    | zero => simp [exec] at h1
    | succ n =>
      rw [exec, hd] at h1
      dsimp only at h1
      rw [h] at h1
      exact ⟨n, r, h1, h2⟩
  · rintro ⟨n, r, h1, h2⟩
    refine ⟨n + 1, r, ?_, h2⟩
    rw [exec, hd]
    dsimp only
    rw [h]
    exact h1
theorem R_no {ins : Instr} {len : Nat} (hd : decode (yC Y) pc = .ok (ins, len)) (h : gIns Y pc len ins ls st w m = none) (h2 : gRet Y ins st = none) (h3 : gCal Y ins st w = none) : R d Y pc ls st w m K = False := by
  apply propext
  constructor
  · rintro ⟨n, r, h1, -⟩
    cases n with
    | zero => simp [exec] at h1
    | succ n =>
      rw [exec, hd] at h1
      dsimp only at h1
      rw [h, h2, h3] at h1
      simp at h1
  · exact False.elim
theorem R_ret {ins : Instr} {r : Option gV} (hd : decode (yC Y) pc = .ok (ins, 1)) (h : gIns Y pc 1 ins ls st w m = none) (h2 : gRet Y ins st = some r) : R d Y pc ls st w m K = K r w m := by
  apply propext
  constructor
  · rintro ⟨n, r, h1, hk⟩
    cases n with
    | zero => simp [exec] at h1
    | succ n =>
      rw [exec, hd] at h1
      dsimp only at h1
      rw [h, h2] at h1
      simp only [if_true] at h1
      cases h1
      exact hk
  · intro hk
    refine ⟨1, (r, w, m), ?_, hk⟩
    rw [exec, hd]
    dsimp only
    rw [h, h2]
    simp
theorem R_call {ins : Instr} {c : gY × List gV × List gV} (hd : decode (yC Y) pc = .ok (ins, 3)) (h : gIns Y pc 3 ins ls st w m = none) (h2 : gRet Y ins st = none) (h3 : gCal Y ins st w = some c) : R d Y pc ls st w m K = C d c.1 c.2.1 w m (fun r w' m' => R d Y (pc + 3) ls (r.toList ++ c.2.2) w' m' K) := by
  apply propext
  constructor
  · rintro ⟨n, r, h1, hk⟩
    cases n with
    | zero => simp [exec] at h1
    | succ n =>
      rw [exec, hd] at h1
      dsimp only at h1
      rw [h, h2, h3] at h1
      cases d with
      | zero => simp at h1
      | succ d =>
        simp only [if_true] at h1
        split at h1
        · rename_i r1 hr
          exact ⟨n, r1, hr, n, r, h1, hk⟩
        · exact absurd h1 (by simp)
  · intro hc
    cases d with
    | zero => exact hc.elim
    | succ d =>
      obtain ⟨n1, r1, h1, n2, r, h4, hk⟩ := hc
      refine ⟨(n1 + n2) + 1, r, ?_, hk⟩
      have e1 := exec_le n1 n2 _ _ _ _ _ _ _ _ h1
      have e2 := exec_le n2 n1 _ _ _ _ _ _ _ _ h4
      rw [Nat.add_comm] at e2
      rw [exec, hd]
      dsimp only
      rw [h, h2, h3]
      simp only [if_true]
      rw [e1]
      exact e2
/-- a step that asks something first -/
theorem R_if {ins : Instr} {len : Nat} {x : gX} {c : Prop} [Decidable c] (hd : decode (yC Y) pc = .ok (ins, len)) (h : gIns Y pc len ins ls st w m = if c then some x else none) (h2 : gRet Y ins st = none) (h3 : gCal Y ins st w = none) : R d Y pc ls st w m K = (c ∧ R d Y x.1 x.2.1 x.2.2.1 x.2.2.2.1 x.2.2.2.2 K) := by
  by_cases hc : c
  · rw [if_pos hc] at h
    rw [R_go hd h]
    simp [hc]
  · rw [if_neg hc] at h
    rw [R_no hd h h2 h3]
    simp [hc]
theorem R_br {ins : Instr} {len : Nat} {x y : gX} {c : Prop} [Decidable c] (hd : decode (yC Y) pc = .ok (ins, len)) (h : gIns Y pc len ins ls st w m = if c then some x else some y) : R d Y pc ls st w m K = if c then R d Y x.1 x.2.1 x.2.2.1 x.2.2.2.1 x.2.2.2.2 K else R d Y y.1 y.2.1 y.2.2.1 y.2.2.2.1 y.2.2.2.2 K := by
  by_cases hc : c
  · rw [if_pos hc] at h ⊢
    exact R_go hd h
  · rw [if_neg hc] at h ⊢
    exact R_go hd h
theorem R_callif {ins : Instr} {c : gY × List gV × List gV} {q : Prop} [Decidable q] (hd : decode (yC Y) pc = .ok (ins, 3)) (h : gIns Y pc 3 ins ls st w m = none) (h2 : gRet Y ins st = none) (h3 : gCal Y ins st w = if q then some c else none) : R d Y pc ls st w m K = (q ∧ C d c.1 c.2.1 w m (fun r w' m' => R d Y (pc + 3) ls (r.toList ++ c.2.2) w' m' K)) := by
  by_cases hc : q
  · rw [if_pos hc] at h3
    rw [R_call hd h h2 h3]
    simp [hc]
  · rw [if_neg hc] at h3
    rw [R_no hd h h2 h3]
    simp [hc]
end RULES
