/-! SOUND, sixth part: a run of the plain machine is a run of the machine. -/
section SND6
variable {l : Launch} {ss : Int → Nat × Nat} {sm sp : Int → Int → Int} {cA dC : Nat → ClassId} {dI : Nat → Nat → Nat} {B : Nat} {sa : Nat → Nat} {Y : gY} {pc len : Nat} {ls st : List gV} {w : gW} {m : gM} {x : gX}
theorem sd_all (hss : gSs ss sm) {ins : Instr} (hd : decode (yC Y) pc = .ok (ins, len)) (h : gIns Y pc len ins ls st w m = some x) : gGo l ss sm sp cA dC dI B sa Y pc ls st w m x := by
  unfold gIns at h
  split at h
  · rename_i hk
    cases ins
    case iload_n k =>
      have hl : len = 1 := by simpa [gLk] using hk
      subst hl
      exact sd_iload_n hd h
    case lload_n k =>
      have hl : len = 1 := by simpa [gLk] using hk
      subst hl
      exact sd_lload_n hd h
    case aload_n k =>
      have hl : len = 1 := by simpa [gLk] using hk
      subst hl
      exact sd_aload_n hd h
    case istore_n k =>
      have hl : len = 1 := by simpa [gLk] using hk
      subst hl
      exact sd_istore_n hd h
    case lstore_n k =>
      have hl : len = 1 := by simpa [gLk] using hk
      subst hl
      exact sd_lstore_n hd h
    case astore_n k =>
      have hl : len = 1 := by simpa [gLk] using hk
      subst hl
      exact sd_astore_n hd h
    case iload k =>
      have hl : len = 2 := by simpa [gLk] using hk
      subst hl
      exact sd_iload hd h
    case lload k =>
      have hl : len = 2 := by simpa [gLk] using hk
      subst hl
      exact sd_lload hd h
    case aload k =>
      have hl : len = 2 := by simpa [gLk] using hk
      subst hl
      exact sd_aload hd h
    case istore k =>
      have hl : len = 2 := by simpa [gLk] using hk
      subst hl
      exact sd_istore hd h
    case lstore k =>
      have hl : len = 2 := by simpa [gLk] using hk
      subst hl
      exact sd_lstore hd h
    case astore k =>
      have hl : len = 2 := by simpa [gLk] using hk
      subst hl
      exact sd_astore hd h
    case iinc i k =>
      have hl : len = 3 := by simpa [gLk] using hk
      subst hl
      exact sd_inc hd (by simpa [gIns0] using h)
    case iadd =>
      have hl : len = 1 := by simpa [gLk] using hk
      subst hl
      exact sd_iadd hd h
    case isub =>
      have hl : len = 1 := by simpa [gLk] using hk
      subst hl
      exact sd_isub hd h
    case imul =>
      have hl : len = 1 := by simpa [gLk] using hk
      subst hl
      exact sd_imul hd h
    case iand =>
      have hl : len = 1 := by simpa [gLk] using hk
      subst hl
      exact sd_iand hd h
    case ior =>
      have hl : len = 1 := by simpa [gLk] using hk
      subst hl
      exact sd_ior hd h
    case ishl =>
      have hl : len = 1 := by simpa [gLk] using hk
      subst hl
      exact sd_ishl hd h
    case ishr =>
      have hl : len = 1 := by simpa [gLk] using hk
      subst hl
      exact sd_ishr hd h
    case ladd =>
      have hl : len = 1 := by simpa [gLk] using hk
      subst hl
      exact sd_ladd hd h
    case lsub =>
      have hl : len = 1 := by simpa [gLk] using hk
      subst hl
      exact sd_lsub hd h
    case lmul =>
      have hl : len = 1 := by simpa [gLk] using hk
      subst hl
      exact sd_lmul hd h
    case land =>
      have hl : len = 1 := by simpa [gLk] using hk
      subst hl
      exact sd_land hd h
    case lor =>
      have hl : len = 1 := by simpa [gLk] using hk
      subst hl
      exact sd_lor hd h
    case lcmp =>
      have hl : len = 1 := by simpa [gLk] using hk
      subst hl
      exact sd_lcmp hd h
    case idiv =>
      have hl : len = 1 := by simpa [gLk] using hk
      subst hl
      exact sd_idiv hd h
    case irem =>
      have hl : len = 1 := by simpa [gLk] using hk
      subst hl
      exact sd_irem hd h
    case ldiv =>
      have hl : len = 1 := by simpa [gLk] using hk
      subst hl
      exact sd_ldiv hd h
    case lrem =>
      have hl : len = 1 := by simpa [gLk] using hk
      subst hl
      exact sd_lrem hd h
    case ineg =>
      have hl : len = 1 := by simpa [gLk] using hk
      subst hl
      exact sd_ineg hd h
    case lneg =>
      have hl : len = 1 := by simpa [gLk] using hk
      subst hl
      exact sd_lneg hd h
    case i2l =>
      have hl : len = 1 := by simpa [gLk] using hk
      subst hl
      exact sd_i2l hd h
    case l2i =>
      have hl : len = 1 := by simpa [gLk] using hk
      subst hl
      exact sd_l2i hd h
    case i2b =>
      have hl : len = 1 := by simpa [gLk] using hk
      subst hl
      exact sd_i2b hd h
    case i2s =>
      have hl : len = 1 := by simpa [gLk] using hk
      subst hl
      exact sd_i2s hd h
    case i2c =>
      have hl : len = 1 := by simpa [gLk] using hk
      subst hl
      exact sd_i2c hd h
    case lshl =>
      have hl : len = 1 := by simpa [gLk] using hk
      subst hl
      exact sd_lshl hd h
    case dup =>
      have hl : len = 1 := by simpa [gLk] using hk
      subst hl
      exact sd_dup hd h
    case dup2 =>
      have hl : len = 1 := by simpa [gLk] using hk
      subst hl
      exact sd_dup2 hd h
    case pop =>
      have hl : len = 1 := by simpa [gLk] using hk
      subst hl
      exact sd_pop hd h
    case pop2 =>
      have hl : len = 1 := by simpa [gLk] using hk
      subst hl
      exact sd_pop2 hd h
    case iconst z =>
      have hl : len = 1 := by simpa [gLk] using hk
      subst hl
      exact sd_iconst hd h
    case bipush z =>
      have hl : len = 2 := by simpa [gLk] using hk
      subst hl
      exact sd_bipush hd h
    case sipush z =>
      have hl : len = 3 := by simpa [gLk] using hk
      subst hl
      exact sd_sipush hd h
    case lconst f =>
      have hl : len = 1 := by simpa [gLk] using hk
      subst hl
      exact sd_lconst hd h
    case ldc i =>
      have hl : len = 2 := by simpa [gLk] using hk
      subst hl
      exact sd_ldc hd h
    case ldc_w i =>
      have hl : len = 3 := by simpa [gLk] using hk
      subst hl
      exact sd_ldcw hd h
    case ldc2_w i =>
      have hl : len = 3 := by simpa [gLk] using hk
      subst hl
      exact sd_ldc2 hd h
    case goto off =>
      have hl : len = 3 := by simpa [gLk] using hk
      subst hl
      exact sd_goto hd h
    case ifCond cd off =>
      have hl : len = 3 := by simpa [gLk] using hk
      subst hl
      exact sd_if hd h
    case if_icmp cd off =>
      have hl : len = 3 := by simpa [gLk] using hk
      subst hl
      exact sd_ic hd h
    case tableswitch a b c d => exact sd_ts hd h
    case lookupswitch a b => exact sd_lk hd h
    case getfield i =>
      have hl : len = 3 := by simpa [gLk] using hk
      subst hl
      exact sd_gf hss hd h
    case putfield i =>
      have hl : len = 3 := by simpa [gLk] using hk
      subst hl
      exact sd_pf hss hd h
    case getstatic i =>
      have hl : len = 3 := by simpa [gLk] using hk
      subst hl
      exact sd_gs hd h
    case iaload =>
      have hl : len = 1 := by simpa [gLk] using hk
      subst hl
      exact sd_iald hss hd h
    case laload =>
      have hl : len = 1 := by simpa [gLk] using hk
      subst hl
      exact sd_lald hss hd h
    case baload =>
      have hl : len = 1 := by simpa [gLk] using hk
      subst hl
      exact sd_bald hss hd h
    case aaload =>
      have hl : len = 1 := by simpa [gLk] using hk
      subst hl
      exact sd_aald hss hd h
    case iastore =>
      have hl : len = 1 := by simpa [gLk] using hk
      subst hl
      exact sd_iast hss hd h
    case lastore =>
      have hl : len = 1 := by simpa [gLk] using hk
      subst hl
      exact sd_last hss hd h
    case bastore =>
      have hl : len = 1 := by simpa [gLk] using hk
      subst hl
      exact sd_bast hss hd h
    case arraylength =>
      have hl : len = 1 := by simpa [gLk] using hk
      subst hl
      exact sd_len hss hd h
    case new i =>
      have hl : len = 3 := by simpa [gLk] using hk
      subst hl
      exact sd_new hd h
    case newarray a =>
      have hl : len = 2 := by simpa [gLk] using hk
      subst hl
      exact sd_na hd h
    case invokestatic i =>
      have hl : len = 3 := by simpa [gLk] using hk
      subst hl
      exact sd_st9 hd rfl h
    case invokespecial i =>
      have hl : len = 3 := by simpa [gLk] using hk
      subst hl
      exact sd_ob hd rfl h
    case multianewarray i k =>
      have hl : len = 4 := by simpa [gLk] using hk
      subst hl
      have h : (if k = 2 then xMa Y pc i ls st w m else none) = some x := h
      split at h
      · rename_i hk2
        subst hk2
        exact sd_ma hd h
      · cases h
    all_goals (exact absurd h (by simp [gIns0]))
  · cases h
theorem gRet_nr {ins : Instr} {r : Option gV} (h : gRet Y ins st = some r) : (ins = .return_ ∧ st = [] ∧ yR Y = none ∧ r = none) ∨ (∃ v : gV, ins = .ireturn ∧ st = [v] ∧ r = some v ∧ v.1 = 0 ∧ (yR Y = some .int ∨ (yR Y = some .boolean ∧ (v.2 = 0 ∨ v.2 = 1)) ∨ (yR Y = some .byte ∧ -128 ≤ v.2 ∧ v.2 ≤ 127) ∨ (yR Y = some .char ∧ 0 ≤ v.2 ∧ v.2 ≤ 65535))) ∨ (∃ v : gV, ins = .lreturn ∧ st = [v] ∧ r = some v ∧ v.1 = 1 ∧ yR Y = some .long) ∨ (∃ v : gV, ins = .areturn ∧ st = [v] ∧ r = some v ∧ v.1 = 2 ∧ yR Y = some (.object "java/lang/String")) := by
  cases ins
  case return_ =>
    simp only [gRet] at h
    split at h
    · split at h
      · rename_i hr
        cases h
        exact Or.inl ⟨rfl, rfl, hr, rfl⟩
      · cases h
    · cases h
  case ireturn =>
    simp only [gRet] at h
    split at h
    · rename_i v
      split at h
      · rename_i hr
        cases h
        exact Or.inr (Or.inl ⟨v, rfl, rfl, rfl, hr.1, hr.2⟩)
      · cases h
    · cases h
  case lreturn =>
    simp only [gRet] at h
    split at h
    · rename_i v
      split at h
      · rename_i hr
        cases h
        exact Or.inr (Or.inr (Or.inl ⟨v, rfl, rfl, rfl, hr.1, hr.2⟩))
      · cases h
    · cases h
  case areturn =>
    simp only [gRet] at h
    split at h
    · rename_i v
      split at h
      · rename_i hr
        cases h
        exact Or.inr (Or.inr (Or.inr ⟨v, rfl, rfl, rfl, hr.1, hr.2⟩))
      · cases h
    · cases h
  all_goals (exact absurd h (by simp [gRet]))
/-- a method's end in the machine -/
def gEnd (cA dC : Nat → ClassId) (dI : Nat → Nat → Nat) (B : Nat) (sa : Nat → Nat) (r : Option gV) (w : gW) (m : gM) : Array Value → State → Outcome → State → Prop := fun _ st o t =>
  o = .returned (r.map (gC B sa)) ∧ va_P (dC, dI) vwCl (gWd cA B sa w m) t.heap ∧ t.heap.size = B + w.1 ∧ va_F (gAA B) st t
theorem ok_byte {z : Int} (h1 : -128 ≤ z) (h2 : z ≤ 127) : narrow .byte (.int (Int32.ofInt z)) = .int (Int32.ofInt z) := by
  show Value.int _ = _
  congr 1
  rw [← Int32.toInt_inj, Int8.toInt_toInt32, Int32.toInt_toInt8, to32 ⟨by omega, by omega⟩]
  exact Int.bmod_eq_of_le (by omega) (by omega)
theorem ok_char {z : Int} (h1 : 0 ≤ z) (h2 : z ≤ 65535) : narrow .char (.int (Int32.ofInt z)) = .int (Int32.ofInt z) := by
  obtain ⟨n, rfl⟩ : ∃ n : Nat, z = n := ⟨z.toNat, by omega⟩
  have := (pk_charN (q := n) (by omega)).1
  exact this
theorem sd_ret {p : Program} {e : Env} {R : Room} {s : State} {mm : MethodId} {args : Array Value} {below : List Frame} {meth : Method} {c : Code} {H : Heap} {locs : List Loc} {cells slots : Nat} {arr : Array Slot} {ins : Instr} {r : Option gV} (hd : decode (yC Y) pc = .ok (ins, 1)) (h : gRet Y ins st = some r) (hE : gEnv ss sm sp cA dC dI B sa Y p R s mm args meth c) (hA : gAt cA dC dI B sa R s w m H locs cells slots) :
    W p l e R s mm args below meth c H locs cells slots (MQ below (gEnd cA dC dI B sa r w m) args s cells slots (gAA B)) (F0 mm pc arr (st.map (gC B sa))) := by
  obtain ⟨hx, hb, -, -, -, hr, hlocks, -⟩ := hE
  have fin : ∀ t : State, t.heap = H → gEnd cA dC dI B sa r w m args s (.returned (r.map (gC B sa))) t := fun t ht => ⟨rfl, by rw [ht]; exact hA.1, by rw [ht]; exact hA.2.1, hA.2.2.1.F ht⟩
  rcases gRet_nr h with ⟨rfl, rfl, h1, rfl⟩ | ⟨v, rfl, rfl, rfl, h1, h2⟩ | ⟨v, rfl, rfl, rfl, h1, h2⟩ | ⟨v, rfl, rfl, rfl, h1, h2⟩
  · exact W.vret hx hb (by rw [hr]; exact h1) (fun t ht _ => fin t ht) hA.2.2.1.2.2 hd hlocks
  · obtain ⟨t, z⟩ := v
    dsimp only at h1
    subst h1
    rcases h2 with h2 | ⟨h2, h3⟩ | ⟨h2, h3, h4⟩ | ⟨h2, h3, h4⟩
    · exact W.iret hx hb (by rw [hr]; exact h2) (fun t ht _ => fin t ht) hA.2.2.1.2.2 hd hlocks
    · exact W.zret (ty := .boolean) hx hb (by rw [hr]; exact h2) (by rcases h3 with h3 | h3 <;> (dsimp only at h3; rw [h3]; rfl)) (fun t ht _ => fin t ht) hA.2.2.1.2.2 hd hlocks
    · exact W.zret (ty := .byte) hx hb (by rw [hr]; exact h2) (ok_byte h3 h4) (fun t ht _ => fin t ht) hA.2.2.1.2.2 hd hlocks
    · exact W.zret (ty := .char) hx hb (by rw [hr]; exact h2) (ok_char h3 h4) (fun t ht _ => fin t ht) hA.2.2.1.2.2 hd hlocks
  · obtain ⟨t, z⟩ := v
    dsimp only at h1
    subst h1
    exact W.lret hx hb (by rw [hr]; exact h2) (fun t ht _ => fin t ht) hA.2.2.1.2.2 hd hlocks
  · exact W.aret (rt := .object "java/lang/String") hx hb (by rw [hr]; exact h2) (Or.inl ⟨_, rfl⟩) (gC_t2 h1) (fun t ht _ => fin t ht) hA.2.2.1.2.2 hd hlocks
/-- what a method needs: its code, and the words of all -/
def gWs (Y : gY) : List Cond := Cond.code (yN Y) (yC Y) (yL Y) (yR Y) :: gAW
def gRm (d mc ms : Nat) : Room := { frames := d + 1, cells := mc, slots := ms, locals := 80 * (d + 1) }
def gPc (ss : Int → Nat × Nat) (sm sp : Int → Int → Int) (cA dC : Nat → ClassId) (dI : Nat → Nat → Nat) (B : Nat) (sa : Nat → Nat) (As : List gV) (w : gW) (m : gM) : Array Value → State → Prop := fun v U => v = (As.map (gC B sa)).toArray ∧ va_P (dC, dI) vwCl (gWd cA B sa w m) U.heap ∧ U.heap.size = B + w.1 ∧ va_K (dC, dI) vwCl (gTys cA) U ∧ gFa ss sm sp B sa U U.heap
/-- a run, from a place on -/
def gRun (l : Launch) (ss : Int → Nat × Nat) (sm sp : Int → Int → Int) (cA dC : Nat → ClassId) (dI : Nat → Nat → Nat) (B : Nat) (sa : Nat → Nat) (d : Nat) (Y : gY) (pc : Nat) (ls st : List gV) (w : gW) (m : gM) (r : Option gV × gW × gM) : Prop :=
  gIv ss sm sp ls st w m → (∀ v ∈ r.1, okV v) ∧ gOk ss sm sp r.2.1 r.2.2 ∧ w.1 ≤ r.2.1.1 ∧ w.2.1 ≤ r.2.1.2.1 ∧
  ∀ {p : Program} {e : Env} {R : Room} {s : State} {mm : MethodId} {args : Array Value} {below : List Frame} {meth : Method} {c : Code} {H : Heap} {locs : List Loc} {cells slots : Nat} {arr : Array Slot},
    gEnv ss sm sp cA dC dI B sa Y p R s mm args meth c → gAt cA dC dI B sa R s w m H locs cells slots → gH B sa arr (yL Y) ls → cells + (r.2.1.1 - w.1) ≤ R.cells → slots + (r.2.1.2.1 - w.2.1) ≤ R.slots → d + 1 ≤ R.frames → 80 * (d + 1) ≤ R.locals →
    W p l e R s mm args below meth c H locs cells slots (MQ below (gEnd cA dC dI B sa r.1 r.2.1 r.2.2) args s (cells + (r.2.1.1 - w.1)) (slots + (r.2.1.2.1 - w.2.1)) (gAA B)) (F0 mm pc arr (st.map (gC B sa)))
theorem gMet (hp : plainName (yN Y).cls = true ∧ (yN Y).cls = gCn (yO Y) ∧ (yH Y = true → (yN Y).name = "<init>")) {d : Nat} {As : List gV} {r : Option gV × gW × gM} (hl : (gSp As).length ≤ yL Y) (hAs : ∀ v ∈ As, okV v) (hg : gOk ss sm sp w m) (h : gRun l ss sm sp cA dC dI B sa d Y 0 (gEnt As (yL Y)) [] w m r) :
    Met l (yN Y) (gWs Y) (gRm d (r.2.1.1 - w.1) (r.2.1.2.1 - w.2.1)) (gPc ss sm sp cA dC dI B sa As w m) (gEnd cA dC dI B sa r.1 r.2.1 r.2.2) (r.2.1.1 - w.1) (r.2.1.2.1 - w.2.1) (gAA B) := by
  refine Met.ofW (cc := yC Y) (maxL := yL Y) (ret := yR Y) hp.1 rfl ?_
  intro p e s m' args below meth c s₁ Bd hml hv
  obtain ⟨rfl, hP, hz, hK, hF⟩ := hv
  obtain ⟨-, -, -, -, hW⟩ := h ⟨gEnt_ok hAs, fun v hv => by simp at hv, hg⟩
  have hts := atoms_spec (ws := gWs Y) Bd.pre
  rw [lg_entry_eq]
  have hH := gH_ent (B := B) (sa := sa) hl
  have := hW (p := p) (e := e) (R := gRm d (r.2.1.1 - w.1) (r.2.1.2.1 - w.2.1)) (s := s) (mm := m') (args := (As.map (gC B sa)).toArray) (below := below) (meth := meth) (c := c) (H := s.heap) (locs := []) (cells := 0) (slots := 0)
    ⟨Bd.exec, Bd.bytes, hml, by rw [← hp.2.1]; exact findClass_of_methodNamed Bd.named, fun w hw => hts w (List.mem_cons_of_mem _ hw), Bd.returns, Bd.notSynchronized, fun hh => by rw [(name_of_methodNamed Bd.named Bd.method).1]; exact hp.2.2 hh, hK, hF, by rw [hz]; omega, by show 1 ≤ d + 1; omega, by show 80 ≤ 80 * (d + 1); omega⟩
    ⟨hP, hz, va_S.rf, Nat.zero_le _, Nat.zero_le _⟩ hH (by show 0 + _ ≤ _; rw [Nat.zero_add]; exact Nat.le_refl _) (by show 0 + _ ≤ _; rw [Nat.zero_add]; exact Nat.le_refl _) (Nat.le_refl _) (Nat.le_refl _)
  rw [Nat.zero_add, Nat.zero_add] at this
  exact this
theorem gPc_blind {As : List gV} : FrameBlind (gPc ss sm sp cA dC dI B sa As w m) := by
  intro a U g mk h
  obtain ⟨h1, h2, h3, h4, h5⟩ := h
  exact ⟨h1, h2, h3, va_K.moved (u := U) (U := U.calling g mk a) (Vm.Alike.refl U.vm) h4, gFa.same h5 rfl⟩
theorem gWs_good {Z : gY} (h : Cond.code (yN Z) (yC Z) (yL Z) (yR Z) ∈ gAW) : GoodIn gAW (gWs Z) := by
  intro w hw
  rcases List.mem_cons.mp hw with rfl | hw
  · exact gAW_good _ h
  · exact gAW_good _ hw
theorem gEnt_nil (v : gV) (h : v ∈ ([] : List gV)) : False := by simp at h
/-- what a call finds behind it -/
theorem g_after {R : Room} {s T U t : State} {H : Heap} {locs L : List Loc} {cells slots c2 s2 : Nat} {w' : gW} {m' : gM} {r : Option gV} {v : Option Value} {a : Array Value} {st₀ : State} (hA : gAt cA dC dI B sa R s w m H locs cells slots) (h0 : st₀.heap = H) (hq : gEnd cA dC dI B sa r w' m' a st₀ (.returned v) t) (hU : U.heap = t.heap) (hL : ∀ q ∈ L, gAA B q.base) (hc : c2 ≤ R.cells) (hs : s2 ≤ R.slots) : gAt cA dC dI B sa R s w' m' U.heap (locs ++ L) c2 s2 ∧ v = r.map (gC B sa) := by
  obtain ⟨q1, q2, q3, q4, q5⟩ := hq
  refine ⟨⟨by rw [hU]; exact q2, by rw [hU]; exact q3, ⟨?_, fun q h1 h2 => ?_, fun q hq => ?_⟩, hc, hs⟩, Outcome.returned.inj q1⟩
  · rw [hU]
    rw [h0] at q4
    exact Nat.le_trans hA.2.2.1.1 q4
  · rw [hU, q5 q (by rw [h0]; exact Nat.lt_of_lt_of_le h1 hA.2.2.1.1) h2, h0]
    exact hA.2.2.1.2.1 q h1 h2
  · rcases List.mem_append.mp hq with h | h
    · exact hA.2.2.1.2.2 q h
    · exact hL q h
theorem gCal_nr {ins : Instr} {c : gY × List gV × List gV} (h : gCal Y ins st w = some c) :
    (∃ idx n, ins = .invokestatic idx ∧ tM (yO Y) idx = some (0, n, c.1) ∧ c.2.1.length = n ∧ st = c.2.1.reverse ++ c.2.2 ∧ gCs c.2.2 ≤ 16 ∧ (gSp c.2.1).length ≤ yL c.1) ∨
    (∃ idx n a As, ins = .invokevirtual idx ∧ tM (yO Y) idx = some (1, n, c.1) ∧ c.2.1 = (2, a) :: As ∧ As.length = n ∧ st = As.reverse ++ (2, a) :: c.2.2 ∧ gCs c.2.2 ≤ 16 ∧ (gSp c.2.1).length ≤ yL c.1 ∧ ((wS w a).1 = yO c.1 ∧ yO c.1 < 9 ∨ (wS w a).1 = 120 ∧ yO c.1 = 10)) ∨
    (∃ idx n a As, ins = .invokespecial idx ∧ tM (yO Y) idx = some (2, n, c.1) ∧ c.2.1 = (2, a) :: As ∧ As.length = n ∧ st = As.reverse ++ (2, a) :: c.2.2 ∧ gCs c.2.2 ≤ 16 ∧ (gSp c.2.1).length ≤ yL c.1 ∧ 0 ≤ a) := by
  cases ins
  case invokestatic idx =>
    simp only [gCal] at h
    split at h
    · rename_i q hq
      split at h
      · rename_i e
        cases h
        obtain ⟨k, n, Z⟩ := q
        dsimp only at e hq ⊢
        obtain ⟨rfl, e2, e3, e4⟩ := e
        exact Or.inl ⟨idx, n, rfl, hq, by simp [e2], by simp, e3, e4⟩
      · cases h
    · cases h
  case invokevirtual idx =>
    simp only [gCal] at h
    split at h
    · rename_i q hq
      split at h
      · rename_i a st' hst
        split at h
        · rename_i e
          cases h
          obtain ⟨k, n, Z⟩ := q
          obtain ⟨ta, z⟩ := a
          dsimp only at e hq hst ⊢
          obtain ⟨rfl, rfl, e2, e3, e4, e5⟩ := e
          refine Or.inr (Or.inl ⟨idx, n, z, (st.take n).reverse, rfl, hq, rfl, by simp [e3], ?_, e4, e5, e2⟩)
          rw [List.reverse_reverse, ← hst, List.take_append_drop]
        · cases h
      · cases h
    · cases h
  case invokespecial idx =>
    simp only [gCal] at h
    split at h
    · rename_i q hq
      split at h
      · rename_i a st' hst
        split at h
        · rename_i e
          cases h
          obtain ⟨k, n, Z⟩ := q
          obtain ⟨ta, z⟩ := a
          dsimp only at e hq hst ⊢
          obtain ⟨rfl, rfl, e2, e3, e4, e5⟩ := e
          refine Or.inr (Or.inr ⟨idx, n, z, (st.take n).reverse, rfl, hq, rfl, by simp [e3], ?_, e4, e5, e2⟩)
          rw [List.reverse_reverse, ← hst, List.take_append_drop]
        · cases h
      · cases h
    · cases h
  all_goals (exact absurd h (by simp [gCal]))
theorem gCal_st {ins : Instr} {c : gY × List gV × List gV} (h : gCal Y ins st w = some c) : (∀ v ∈ c.2.1, v ∈ st) ∧ (∀ v ∈ c.2.2, v ∈ st) ∧ (gSp c.2.1).length ≤ yL c.1 := by
  rcases gCal_nr h with ⟨_, _, -, -, -, hs, -, hl⟩ | ⟨_, _, a, As, -, -, h1, -, hs, -, hl, -⟩ | ⟨_, _, a, As, -, -, h1, -, hs, -, hl, -⟩
  · refine ⟨fun v hv => ?_, fun v hv => ?_, hl⟩
    · rw [hs]; simp [hv]
    · rw [hs]; simp [hv]
  · refine ⟨fun v hv => ?_, fun v hv => ?_, hl⟩
    · rw [h1] at hv
      rw [hs]
      rcases List.mem_cons.mp hv with rfl | hv
      · simp
      · simp [hv]
    · rw [hs]; simp [hv]
  · refine ⟨fun v hv => ?_, fun v hv => ?_, hl⟩
    · rw [h1] at hv
      rw [hs]
      rcases List.mem_cons.mp hv with rfl | hv
      · simp
      · simp [hv]
    · rw [hs]; simp [hv]
/-- a call is sound, its callee being so -/
theorem sd_call (hss : gSs ss sm) {ins : Instr} {c : gY × List gV × List gV} {d : Nat} {r : Option gV × gW × gM} (hd : decode (yC Y) pc = .ok (ins, 3)) (h : gCal Y ins st w = some c) (hi : gIv ss sm sp ls st w m) (hr : gRun l ss sm sp cA dC dI B sa d c.1 0 (gEnt c.2.1 (yL c.1)) [] w m r)
    {p : Program} {e : Env} {R : Room} {s : State} {mm : MethodId} {args : Array Value} {below : List Frame} {meth : Method} {cd : Code} {H : Heap} {locs : List Loc} {cells slots : Nat} {arr : Array Slot} {Q : State → Prop}
    (hE : gEnv ss sm sp cA dC dI B sa Y p R s mm args meth cd) (hA : gAt cA dC dI B sa R s w m H locs cells slots) (hH : gH B sa arr (yL Y) ls) (hc : cells + (r.2.1.1 - w.1) ≤ R.cells) (hs : slots + (r.2.1.2.1 - w.2.1) ≤ R.slots) (hf : d + 1 + 1 ≤ R.frames) (hlo : 80 * (d + 1 + 1) ≤ R.locals)
    (kk : ∀ (H' : Heap) (locs' : List Loc), gAt cA dC dI B sa R s r.2.1 r.2.2 H' locs' (cells + (r.2.1.1 - w.1)) (slots + (r.2.1.2.1 - w.2.1)) → W p l e R s mm args below meth cd H' locs' (cells + (r.2.1.1 - w.1)) (slots + (r.2.1.2.1 - w.2.1)) Q (F0 mm (pc + 3) arr ((r.1.toList ++ c.2.2).map (gC B sa)))) :
    W p l e R s mm args below meth cd H locs cells slots Q (F0 mm pc arr (st.map (gC B sa))) := by
  obtain ⟨hx, hb, hml, hown, hts, -, -, -, hK, hF, -⟩ := id hE
  have hst := gCal_st h
  have go : ∀ (k n : Nat), mY k n c.1 → Met l (yN c.1) (gWs c.1) (gRm d (r.2.1.1 - w.1) (r.2.1.2.1 - w.2.1)) (gPc ss sm sp cA dC dI B sa c.2.1 w m) (gEnd cA dC dI B sa r.1 r.2.1 r.2.2) (r.2.1.1 - w.1) (r.2.1.2.1 - w.2.1) (gAA B) ∧ Back l R p e below s args (yN c.1) 3 16 (PreOf R (r.2.1.1 - w.1) (r.2.1.2.1 - w.2.1) (gPc ss sm sp cA dC dI B sa c.2.1 w m)) (PostOf (gEnd cA dC dI B sa r.1 r.2.1 r.2.2) (r.2.1.1 - w.1) (r.2.1.2.1 - w.2.1) (gAA B)) := by
    intro k n hy
    have hM := gMet ⟨hy.2.2.2.2.1, hy.2.2.1, hy.2.2.2.2.2.2.1⟩ hst.2.2 (fun v hv => hi.2.1 v (hst.1 v hv)) hi.2.2 hr
    refine ⟨hM, back_of (bytes := yC c.1) (maxL := yL c.1) (ret := yR c.1) hM gPc_blind rfl rfl hf ?_ (pay_in hts (gWs_good hy.1)) List.mem_cons_self (fun a' U hW => word_at hW (Or.inl (by first | rfl | simp [Cond.onTables, Cond.keeps, Cond.steady])) (hts _ hy.2.1))⟩
    have h40 := hy.2.2.2.2.2.1
    show 16 + (yL c.1 + 11) + 80 * (d + 1) ≤ _
    omega
  have hpre : ∀ (T : State) (vm₁ : Vm), T.heap = H → s.WarmedH vm₁ → PreOf R (r.2.1.1 - w.1) (r.2.1.2.1 - w.2.1) (gPc ss sm sp cA dC dI B sa c.2.1 w m) ⟨T.setVm vm₁, locs, cells, slots⟩ (c.2.1.map (gC B sa)).toArray := by
    intro T vm₁ hT hW
    refine ⟨hc, hs, rfl, ?_, ?_, va_K.moved hW.alike hK, ?_⟩
    · show va_P _ _ _ T.heap
      rw [hT]; exact hA.1
    · show T.heap.size = _
      rw [hT]; exact hA.2.1
    · exact hF.go hW (fun a h1 h2 => by
        show T.heap[a]? = _
        rw [hT]
        exact hA.2.2.1.2.1 a h1 h2)
  have fin : ∀ (T : State) (vm₁ : Vm) (v : Option Value) (Bp : Pt), T.heap = H → PostOf (gEnd cA dC dI B sa r.1 r.2.1 r.2.2) (r.2.1.1 - w.1) (r.2.1.2.1 - w.2.1) (gAA B) ⟨T.setVm vm₁, locs, cells, slots⟩ (c.2.1.map (gC B sa)).toArray v Bp → Stand p l e R s mm args below meth cd Bp.U Bp.locs Bp.cells Bp.slots → ∃ t, Steps p.tables e below (Bp.U.setTop (F0 mm (pc + 3) arr (v.toList ++ c.2.2.map (gC B sa)))) t ∧ Q t := by
    intro T vm₁ v Bp hT hpost X'
    obtain ⟨U', l2, c2, s2⟩ := Bp
    obtain ⟨g', mk, t, L, e1, e2, hq, h1, hL, h2, h3⟩ := hpost
    dsimp only [Pt.U, Pt.locs, Pt.cells, Pt.slots] at X' e1 e2 h1 h2 h3 ⊢
    subst h1; subst h2; subst h3
    obtain ⟨hA', hv⟩ := g_after (U := U') (T := T) (t := t) (L := L) (c2 := cells + (r.2.1.1 - w.1)) (s2 := slots + (r.2.1.2.1 - w.2.1)) hA (show ((T.setVm vm₁).calling g' mk _).heap = H from hT) hq e1 hL hc hs
    have := kk U'.heap (locs ++ L) hA' U' rfl X'
    have e3 : (r.1.toList ++ c.2.2).map (gC B sa) = v.toList ++ c.2.2.map (gC B sa) := by
      rw [hv, List.map_append]
      cases r.1 <;> rfl
    rw [e3] at this
    exact this
  have hcs := gCs_sum (B := B) (sa := sa) c.2.2
  rcases gCal_nr h with ⟨idx, n, rfl, hm, hn, hs2, h16, -⟩ | ⟨idx, n, a, As, rfl, hm, hAs, hn, hs2, h16, -, ho⟩ | ⟨idx, n, a, As, rfl, hm, hAs, hn, hs2, h16, -, ha⟩
  · obtain ⟨hlk, hy⟩ := tM_sp hm
    dsimp only at hlk hy
    obtain ⟨hM, hK16⟩ := go 0 n hy
    have hlen : ∀ sig, parseMethodDescriptor (yN c.1).desc = some sig → (c.2.1.map (gC B sa)).length = sig.parameters.length := fun sig hsig => by
      have h2 := hy.2.2.2.1.2.2
      rw [hsig] at h2
      rw [List.length_map, hn]
      exact (Option.some.inj h2).symm
    have hstk : (F0 mm pc arr (st.map (gC B sa))).stack = (c.2.1.map (gC B sa)).reverse ++ c.2.2.map (gC B sa) := by
      show st.map (gC B sa) = _
      rw [hs2, List.map_append, List.map_reverse]
    have hWr : 2 * (F0 mm pc arr (st.map (gC B sa))).monitorRoom + ((c.2.2.map (gC B sa)).map fun v => v.category).sum ≤ 16 := by show 2 * 0 + _ ≤ _; omega
    intro T hT X
    rcases hlk with hlk | hlk
    · obtain ⟨v, vm₁, Bp, hW₁, X', hpost, stp⟩ := callS X hx (bytes := yC c.1) (maxL := yL c.1) (ret := yR c.1) hown (hts _ hlk) (hts _ (hy.2.2.2.2.2.2.2.1 rfl)) (hts _ hy.2.1) (hts _ hy.1) ⟨hy.2.2.2.1.1, hy.2.2.2.1.2.1⟩ hK16 (g := F0 mm pc arr (st.map (gC B sa))) rfl (by show arr.size = _; rw [gH_size hH, hml]) (argsL := c.2.1.map (gC B sa)) (rest := c.2.2.map (gC B sa)) hlen hstk hWr (by rw [hb]; exact hd) (fun vm₁ hW₁ => hpre T vm₁ hT hW₁)
      obtain ⟨t, a1, b1⟩ := fin T vm₁ v Bp hT hpost X'
      exact ⟨t, stp t a1, b1⟩
    · have nw := hF.2.2.2.2.2.1 _ hlk
      obtain ⟨v, vm₁, Bp, hW₁, X', hpost, stp⟩ := va_callSN X hx (bytes := yC c.1) (maxL := yL c.1) (ret := yR c.1) hown (va_Nw.use rfl nw) (hts _ (hy.2.2.2.2.2.2.2.1 rfl)) (hts _ hy.2.1) (hts _ hy.1) ⟨hy.2.2.2.1.1, hy.2.2.2.1.2.1⟩ hK16 (g := F0 mm pc arr (st.map (gC B sa))) rfl (by show arr.size = _; rw [gH_size hH, hml]) (argsL := c.2.1.map (gC B sa)) (rest := c.2.2.map (gC B sa)) hlen hstk hWr (by rw [hb]; exact hd) (fun vm₁ hW₁ => hpre T vm₁ hT hW₁)
      obtain ⟨t, a1, b1⟩ := fin T vm₁ v Bp hT hpost X'
      exact ⟨t, stp t a1, b1⟩
  · obtain ⟨hlk, hy⟩ := tM_sp hm
    dsimp only at hlk hy
    obtain ⟨hM, hK16⟩ := go 1 n hy
    have hlen : ∀ sig, parseMethodDescriptor (yN c.1).desc = some sig → (As.map (gC B sa)).length = sig.parameters.length := fun sig hsig => by
      have h2 := hy.2.2.2.1.2.2
      rw [hsig] at h2
      rw [List.length_map, hn]
      exact (Option.some.inj h2).symm
    obtain ⟨b, hb2, cellB, hcB, hoB, hclB⟩ : ∃ b : Nat, gC B sa (2, a) = .ref b ∧ ∃ cellB : Cell, H[b]? = some cellB ∧ cellB.vm.isStatics = false ∧ s.vm.findClass (yN c.1).cls = some cellB.cls := by
      rw [hy.2.2.1]
      rcases ho with ⟨o1, o2⟩ | ⟨o1, o2⟩
      · obtain ⟨a0, a1⟩ := kind_lt hss hi.2.2 o1 (by omega)
        have hk : a.toNat < w.1 := by omega
        have e3 : (wS w (a.toNat : Int)).1 = yO c.1 := by rw [toNat_i a0]; exact o1
        have hcell := gWd_get (cA := cA) (B := B) (sa := sa) (m := m) hk
        rw [gE_obj (by rw [e3]; exact o2), e3] at hcell
        have hcl : ∃ q, vwCl[yO c.1]? = some q ∧ q.1 = gCn (yO c.1) := by
          have : ∀ k, k < 9 → ∃ q, vwCl[k]? = some q ∧ q.1 = gCn k := by
            intro k hk
            have : k = 0 ∨ k = 1 ∨ k = 2 ∨ k = 3 ∨ k = 4 ∨ k = 5 ∨ k = 6 ∨ k = 7 ∨ k = 8 := by omega
            rcases this with rfl | rfl | rfl | rfl | rfl | rfl | rfl | rfl | rfl <;> exact ⟨_, rfl, rfl⟩
          exact this _ o2
        obtain ⟨q, hq1, hq2⟩ := hcl
        obtain ⟨cellB, c1, c2, c3⟩ := va_recv hK hA.1 hq1 hcell
        exact ⟨B + a.toNat, gC_r a0, cellB, c1, c2, by rw [← hq2]; exact c3⟩
      · have a1 : a < -1 := by
          rcases gOk_lt hi.2.2 (a := a) (by omega) with q | q
          · have k0 := (hi.2.2.1 a.toNat (by omega)).1
            rw [toNat_i q.1] at k0
            omega
          · exact q
        have s3 := hi.2.2.2.2.1 a a1
        rw [s3.1] at o1
        obtain ⟨cellB, c1, c2, c3, c4⟩ := (hF.2.2.1 a a1 o1).1.kept (H1 := H) (fun q h1 h2 => hA.2.2.1.2.1 q h1 h2)
        refine ⟨gAd sa a, gC_s a1, cellB, c1, c2, ?_⟩
        rw [o2]
        exact c3
    have hstk : (F0 mm pc arr (st.map (gC B sa))).stack = (As.map (gC B sa)).reverse ++ .ref b :: c.2.2.map (gC B sa) := by
      show st.map (gC B sa) = _
      rw [hs2, List.map_append, List.map_reverse, List.map_cons, hb2]
    have hWr : 2 * (F0 mm pc arr (st.map (gC B sa))).monitorRoom + ((c.2.2.map (gC B sa)).map fun v => v.category).sum ≤ 16 := by show 2 * 0 + _ ≤ _; omega
    have harg : c.2.1.map (gC B sa) = .ref b :: As.map (gC B sa) := by rw [hAs, List.map_cons, hb2]
    rw [harg] at hpre fin
    intro T hT X
    rcases hlk with hlk | hlk
    · obtain ⟨v, vm₁, Bp, hW₁, X', hpost, stp⟩ := callV X hx (C := (yN c.1).cls) (bytes := yC c.1) (maxL := yL c.1) (ret := yR c.1) hown (hts _ hlk) (hts _ (hy.2.2.2.2.2.2.2.2.1 rfl).1) (hts _ (hy.2.2.2.2.2.2.2.2.1 rfl).2) (hts _ hy.1) ⟨hy.2.2.2.1.1, hy.2.2.2.1.2.1⟩ hK16 (by rw [hT]; exact hcB) hoB hclB (g := F0 mm pc arr (st.map (gC B sa))) rfl (by show arr.size = _; rw [gH_size hH, hml]) (argsL := As.map (gC B sa)) (rest := c.2.2.map (gC B sa)) hlen hstk hWr (by rw [hb]; exact hd) (fun vm₁ hW₁ => hpre T vm₁ hT hW₁)
      obtain ⟨t, a1, b1⟩ := fin T vm₁ v Bp hT hpost X'
      exact ⟨t, stp t a1, b1⟩
    · have nw := hF.2.2.2.2.2.1 _ hlk
      obtain ⟨v, vm₁, Bp, hW₁, X', hpost, stp⟩ := va_callVN X hx (C := (yN c.1).cls) (bytes := yC c.1) (maxL := yL c.1) (ret := yR c.1) hown (va_Nw.use rfl nw) (hts _ (hy.2.2.2.2.2.2.2.2.1 rfl).1) (hts _ (hy.2.2.2.2.2.2.2.2.1 rfl).2) (hts _ hy.1) ⟨hy.2.2.2.1.1, hy.2.2.2.1.2.1⟩ hK16 (by rw [hT]; exact hcB) hoB hclB (g := F0 mm pc arr (st.map (gC B sa))) rfl (by show arr.size = _; rw [gH_size hH, hml]) (argsL := As.map (gC B sa)) (rest := c.2.2.map (gC B sa)) hlen hstk hWr (by rw [hb]; exact hd) (fun vm₁ hW₁ => hpre T vm₁ hT hW₁)
      obtain ⟨t, a1, b1⟩ := fin T vm₁ v Bp hT hpost X'
      exact ⟨t, stp t a1, b1⟩
  · obtain ⟨hlk, hy⟩ := tM_sp hm
    dsimp only at hlk hy
    obtain ⟨hM, hK16⟩ := go 2 n hy
    have h2 := hy.2.2.2.2.2.2.2.2.2 rfl
    have hlen : ∀ sig, parseMethodDescriptor (yN c.1).desc = some sig → (As.map (gC B sa)).length = sig.parameters.length := fun sig hsig => by
      have h2 := hy.2.2.2.1.2.2
      rw [hsig] at h2
      rw [List.length_map, hn]
      exact (Option.some.inj h2).symm
    have hstk : (F0 mm pc arr (st.map (gC B sa))).stack = (As.map (gC B sa)).reverse ++ .ref (B + a.toNat) :: c.2.2.map (gC B sa) := by
      show st.map (gC B sa) = _
      rw [hs2, List.map_append, List.map_reverse, List.map_cons, gC_r ha]
    have hWr : 2 * (F0 mm pc arr (st.map (gC B sa))).monitorRoom + ((c.2.2.map (gC B sa)).map fun v => v.category).sum ≤ 16 := by show 2 * 0 + _ ≤ _; omega
    have harg : c.2.1.map (gC B sa) = .ref (B + a.toNat) :: As.map (gC B sa) := by rw [hAs, List.map_cons, gC_r ha]
    rw [harg] at hpre fin
    have hcode : (Cond.code (yN c.1) (yC c.1) (yL c.1) none).before args s = true := by rw [← h2.2.2]; exact hts _ hy.1
    intro T hT X
    rcases hlk with hlk | hlk
    · obtain ⟨v, vm₁, Bp, hW₁, X', hpost, stp⟩ := callI X hx (bytes := yC c.1) (maxL := yL c.1) hown h2.2.1 (hts _ hlk) (hts _ h2.1) hcode ⟨hy.2.2.2.1.1, hy.2.2.2.1.2.1⟩ hK16 (g := F0 mm pc arr (st.map (gC B sa))) rfl (by show arr.size = _; rw [gH_size hH, hml]) (argsL := As.map (gC B sa)) (rest := c.2.2.map (gC B sa)) hlen hstk hWr (by rw [hb]; exact hd) (fun vm₁ hW₁ => hpre T vm₁ hT hW₁)
      obtain ⟨t, a1, b1⟩ := fin T vm₁ v Bp hT hpost X'
      exact ⟨t, stp t a1, b1⟩
    · have nw := hF.2.2.2.2.2.1 _ hlk
      obtain ⟨v, vm₁, Bp, hW₁, X', hpost, stp⟩ := va_callIN X hx (bytes := yC c.1) (maxL := yL c.1) hown h2.2.1 (va_Nw.use rfl nw) (hts _ h2.1) hcode ⟨hy.2.2.2.1.1, hy.2.2.2.1.2.1⟩ hK16 (g := F0 mm pc arr (st.map (gC B sa))) rfl (by show arr.size = _; rw [gH_size hH, hml]) (argsL := As.map (gC B sa)) (rest := c.2.2.map (gC B sa)) hlen hstk hWr (by rw [hb]; exact hd) (fun vm₁ hW₁ => hpre T vm₁ hT hW₁)
      obtain ⟨t, a1, b1⟩ := fin T vm₁ v Bp hT hpost X'
      exact ⟨t, stp t a1, b1⟩
theorem snd (hss : gSs ss sm) : ∀ (n d : Nat) (Y : gY) (pc : Nat) (ls st : List gV) (w : gW) (m : gM) (r : Option gV × gW × gM), exec n d Y pc ls st w m = some r → gRun l ss sm sp cA dC dI B sa d Y pc ls st w m r := by
  intro n
  induction n with
  | zero => intro d Y pc ls st w m r h; simp [exec] at h
  | succ n ih =>
    intro d Y pc ls st w m r h
    rw [exec] at h
    split at h
    · exact absurd h (by simp)
    · rename_i q hq
      obtain ⟨ins, len⟩ := q
      dsimp only at h
      split at h
      · rename_i x hx
        have IH := ih _ _ _ _ _ _ _ _ h
        intro hi
        obtain ⟨hi', w1, w2, hW⟩ := sd_all (l := l) (cA := cA) (dC := dC) (dI := dI) (B := B) (sa := sa) hss hq hx hi
        obtain ⟨r1, r2, r3, r4, hR⟩ := IH hi'
        refine ⟨r1, r2, Nat.le_trans w1 r3, Nat.le_trans w2 r4, ?_⟩
        intro p e R s mm args below meth c H locs cells slots arr hE hA hH hc hs hf hlo
        have e1 : cells + (x.2.2.2.1.1 - w.1) + (r.2.1.1 - x.2.2.2.1.1) = cells + (r.2.1.1 - w.1) := by omega
        have e2 : slots + (x.2.2.2.1.2.1 - w.2.1) + (r.2.1.2.1 - x.2.2.2.1.2.1) = slots + (r.2.1.2.1 - w.2.1) := by omega
        refine hW hE hA hH (by omega) (by omega) (fun H' locs' arr' hA' hH' => ?_)
        have := hR hE hA' hH' (by omega) (by omega) hf hlo (below := below) (e := e)
        rw [e1, e2] at this
        exact this
      · rename_i hx
        split at h
        · rename_i rr hr
          split at h
          · rename_i h1
            subst h1
            cases h
            intro hi
            refine ⟨fun v hv => ?_, hi.2.2, Nat.le_refl _, Nat.le_refl _, ?_⟩
            · rcases gRet_nr hr with ⟨rfl, rfl, h1, rfl⟩ | ⟨v', rfl, rfl, rfl, h1, h2⟩ | ⟨v', rfl, rfl, rfl, h1, h2⟩ | ⟨v', rfl, rfl, rfl, h1, h2⟩
              · cases hv
              all_goals
                have : v = v' := by simpa using hv.symm
                subst this
                exact hi.2.1 v (by simp)
            · intro p e R s mm args below meth c H locs cells slots arr hE hA hH hc hs hf hlo
              dsimp only
              rw [Nat.sub_self, Nat.add_zero, Nat.sub_self, Nat.add_zero]
              exact sd_ret hq hr hE hA
          · cases h
        · rename_i hr
          split at h
          · rename_i c hcl
            split at h
            · rename_i h3
              subst h3
              split at h
              · exact absurd h (by simp)
              · rename_i d
                split at h
                · rename_i r1 hr1
                  have IH1 := ih _ _ _ _ _ _ _ _ hr1
                  have IH2 := ih _ _ _ _ _ _ _ _ h
                  intro hi
                  have hst := gCal_st hcl
                  obtain ⟨o1, o2, o3, o4, -⟩ := IH1 ⟨gEnt_ok (fun v hv => hi.2.1 v (hst.1 v hv)), fun v hv => by simp at hv, hi.2.2⟩
                  obtain ⟨u1, u2, u3, u4, hR⟩ := IH2 ⟨hi.1, fun v hv => by
                    rcases List.mem_append.mp hv with hv | hv
                    · exact o1 v (by simpa using hv)
                    · exact hi.2.1 v (hst.2.1 v hv), o2⟩
                  refine ⟨u1, u2, Nat.le_trans o3 u3, Nat.le_trans o4 u4, ?_⟩
                  intro p e R s mm args below meth cd H locs cells slots arr hE hA hH hc hs hf hlo
                  have e1 : cells + (r1.2.1.1 - w.1) + (r.2.1.1 - r1.2.1.1) = cells + (r.2.1.1 - w.1) := by omega
                  have e2 : slots + (r1.2.1.2.1 - w.2.1) + (r.2.1.2.1 - r1.2.1.2.1) = slots + (r.2.1.2.1 - w.2.1) := by omega
                  refine sd_call hss hq hcl hi IH1 hE hA hH (by omega) (by omega) hf hlo (fun H' locs' hA' => ?_)
                  have := hR hE hA' hH (by omega) (by omega) hf hlo (below := below) (e := e)
                  rw [e1, e2] at this
                  exact this
                · exact absurd h (by simp)
            · exact absurd h (by simp)
          · exact absurd h (by simp)
end SND6
