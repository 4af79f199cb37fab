/-! THE PLAIN MACHINE IS SOUND, first part: what a method's body stands on, and the instructions that leave the world as it is. -/
def gAO (ty : FieldType) (U : State) : Prop := (Cond.arrayOver (.array ty)).before #[] U = true
theorem gAO.moved {ty : FieldType} {u U : State} (hvm : u.vm.Alike U.vm) (h : gAO ty u) : gAO ty U := by
  have h1 : (Cond.arrayOver (.array ty)).before #[] (u.setVm U.vm) = true := by
    rw [Cond.arrayOver_setVmC hvm]
    exact h
  first
    | exact h1
    | exact va_tabs rfl (rfl : (u.setVm U.vm).vm = U.vm) h1
section SND
variable {l : Launch} {ss : Int → Nat × Nat} {sm sp : Int → Int → Int} {cA dC : Nat → ClassId} {dI : Nat → Nat → Nat} {B : Nat} {sa : Nat → Nat}
def gAd (sa : Nat → Nat) (a : Int) : Nat := sa (-2 - a).toNat
/-- what stood before the method began, and stays -/
def gFa (ss : Int → Nat × Nat) (sm sp : Int → Int → Int) (B : Nat) (sa : Nat → Nat) (U : State) (H : Heap) : Prop :=
  (∀ a : Int, a < -1 → (ss a).1 = 100 → va_T .int (gAd sa a) (ss a).2 (fun j => .int (Int32.ofInt (sm a j))) (gAA B) U H) ∧
  (∀ a : Int, a < -1 → (ss a).1 = 110 → va_T .byte (gAd sa a) (ss a).2 (fun j => .int (Int32.ofInt (sm a j))) (gAA B) U H) ∧
  (∀ a : Int, a < -1 → (ss a).1 = 120 → va_O "java/lang/String" (gAd sa a) (gAA B) U H ∧ va_OF "java/lang/String" "value" "[B" (gC B sa (2, sp a 0)) (gAd sa a) (gAA B) U H ∧ va_OF "java/lang/String" "coder" "B" (.int (Int32.ofInt (sm a 1))) (gAd sa a) (gAA B) U H) ∧
  (∀ q ∈ gSt, va_Z q.1 q.2.1 q.2.2.1 (gC B sa (if q.2.2.2.1 = 4 then (2, sp (-1) q.2.2.2.2) else q.2.2.2)) (gAA B) U H) ∧
  (∀ (i : Nat) (z : Int), tC 4 i = some (2, z) → vk_R "LegHedge$SetUp" i (gTx z) (gAd sa z) U) ∧
  (∀ w ∈ gNW, va_Nw w U) ∧ gAO .int U ∧ gAO .long U
/-- of what stood before: kinds, numbers in range -/
def gSs (ss : Int → Nat × Nat) (sm : Int → Int → Int) : Prop := ∀ a : Int, a < -1 → ((ss a).1 = 99 ∨ (ss a).1 = 100 ∨ (ss a).1 = 110 ∨ (ss a).1 = 120) ∧ (ss a).2 ≤ 100000 ∧ ∀ j : Int, okI (sm a j)
theorem gFa.go {s U : State} {H H1 : Heap} (h : gFa ss sm sp B sa s H) (hW : s.WarmedH U.vm) (hq : ∀ a : Nat, a < H.size → ¬ gAA B a → H1[a]? = H[a]?) : gFa ss sm sp B sa U H1 := by
  obtain ⟨h1, h2, h3, h4, h5, h6, h7, h8⟩ := h
  refine ⟨fun a ha hk => ((h1 a ha hk).moved hW.alike).kept hq, fun a ha hk => ((h2 a ha hk).moved hW.alike).kept hq, fun a ha hk => ?_, fun q hm => ((h4 q hm).moved hW.alike).kept hq, fun i z hz => (h5 i z hz).warm hW, fun w hw => ?_, h7.moved hW.alike, h8.moved hW.alike⟩
  · obtain ⟨a1, a2, a3⟩ := h3 a ha hk
    exact ⟨(a1.moved hW.alike).kept hq, (a2.moved hW.alike).kept hq, (a3.moved hW.alike).kept hq⟩
  · have := h6 w hw
    simp only [gNW, List.mem_cons, List.not_mem_nil, or_false] at hw
    rcases hw with rfl | rfl | rfl | rfl | rfl | rfl <;> first | exact va_Nw.warmF hW this | exact va_Nw.warmM hW this
theorem gFa.same {s U : State} {H : Heap} (h : gFa ss sm sp B sa s H) (hv : U.vm = s.vm) : gFa ss sm sp B sa U H := by
  have hA : s.vm.Alike U.vm := by rw [hv]; exact Vm.Alike.refl _
  obtain ⟨h1, h2, h3, h4, h5, h6, h7, h8⟩ := h
  refine ⟨fun a ha hk => (h1 a ha hk).moved hA, fun a ha hk => (h2 a ha hk).moved hA, fun a ha hk => ?_, fun q hm => (h4 q hm).moved hA, fun i z hz => (h5 i z hz).same hv, fun w hw => ?_, h7.moved hA, h8.moved hA⟩
  · obtain ⟨a1, a2, a3⟩ := h3 a ha hk
    exact ⟨a1.moved hA, a2.moved hA, a3.moved hA⟩
  · have := h6 w hw
    simp only [gNW, List.mem_cons, List.not_mem_nil, or_false] at hw
    rcases hw with rfl | rfl | rfl | rfl | rfl | rfl <;> exact va_Nw.same rfl hv.symm this
def gEnv (ss : Int → Nat × Nat) (sm sp : Int → Int → Int) (cA dC : Nat → ClassId) (dI : Nat → Nat → Nat) (B : Nat) (sa : Nat → Nat) (Y : gY) (p : Program) (R : Room) (s : State) (mm : MethodId) (args : Array Value) (meth : Method) (c : Code) : Prop :=
  p.tables.exec = Jvm.exec ∧ c.code = yC Y ∧ c.maxLocals = yL Y ∧ s.vm.findClass (gCn (yO Y)) = some mm.cls ∧ (∀ w ∈ gAW, w.before args s = true) ∧ meth.sig.returnType = yR Y ∧ meth.locks = false ∧ (yH Y = true → meth.name = "<init>") ∧
  va_K (dC, dI) vwCl (gTys cA) s ∧ gFa ss sm sp B sa s s.heap ∧ B ≤ s.heap.size ∧ 1 ≤ R.frames ∧ 80 ≤ R.locals
def gAt (cA dC : Nat → ClassId) (dI : Nat → Nat → Nat) (B : Nat) (sa : Nat → Nat) (R : Room) (s : State) (w : gW) (m : gM) (H : Heap) (locs : List Loc) (cells slots : Nat) : Prop :=
  va_P (dC, dI) vwCl (gWd cA B sa w m) H ∧ H.size = B + w.1 ∧ va_S (gAA B) s.heap H locs ∧ cells ≤ R.cells ∧ slots ≤ R.slots
def gIv (ss : Int → Nat × Nat) (sm sp : Int → Int → Int) (ls st : List gV) (w : gW) (m : gM) : Prop := (∀ v ∈ ls, okV v) ∧ (∀ v ∈ st, okV v) ∧ gOk ss sm sp w m
/-- one step is sound -/
def gGo (l : Launch) (ss : Int → Nat × Nat) (sm sp : Int → Int → Int) (cA dC : Nat → ClassId) (dI : Nat → Nat → Nat) (B : Nat) (sa : Nat → Nat) (Y : gY) (pc : Nat) (ls st : List gV) (w : gW) (m : gM) (x : gX) : Prop :=
  gIv ss sm sp ls st w m → gIv ss sm sp x.2.1 x.2.2.1 x.2.2.2.1 x.2.2.2.2 ∧ w.1 ≤ x.2.2.2.1.1 ∧ w.2.1 ≤ x.2.2.2.1.2.1 ∧
  ∀ {p : Program} {e : Env} {R : Room} {s : State} {mm : MethodId} {args : Array Value} {below : List Frame} {meth : Method} {c : Code} {H : Heap} {locs : List Loc} {cells slots : Nat} {arr : Array Slot} {Q : State → Prop},
    gEnv ss sm sp cA dC dI B sa Y p R s mm args meth c → gAt cA dC dI B sa R s w m H locs cells slots → gH B sa arr (yL Y) ls → cells + (x.2.2.2.1.1 - w.1) ≤ R.cells → slots + (x.2.2.2.1.2.1 - w.2.1) ≤ R.slots →
    (∀ (H' : Heap) (locs' : List Loc) (arr' : Array Slot), gAt cA dC dI B sa R s x.2.2.2.1 x.2.2.2.2 H' locs' (cells + (x.2.2.2.1.1 - w.1)) (slots + (x.2.2.2.1.2.1 - w.2.1)) → gH B sa arr' (yL Y) x.2.1 → W p l e R s mm args below meth c H' locs' (cells + (x.2.2.2.1.1 - w.1)) (slots + (x.2.2.2.1.2.1 - w.2.1)) Q (F0 mm x.1 arr' (x.2.2.1.map (gC B sa)))) →
    W p l e R s mm args below meth c H locs cells slots Q (F0 mm pc arr (st.map (gC B sa)))
/-- a step that leaves world and memory -/
theorem gGo.of {Y : gY} {pc : Nat} {ls st : List gV} {w : gW} {m : gM} {pc' : Nat} {ls' st' : List gV} (h1 : (∀ v ∈ ls, okV v) → (∀ v ∈ st, okV v) → gOk ss sm sp w m → (∀ v ∈ ls', okV v) ∧ ∀ v ∈ st', okV v)
    (h2 : ∀ {p : Program} {e : Env} {R : Room} {s : State} {mm : MethodId} {args : Array Value} {below : List Frame} {meth : Method} {c : Code} {H : Heap} {locs : List Loc} {cells slots : Nat} {arr : Array Slot} {Q : State → Prop},
      gIv ss sm sp ls st w m → gEnv ss sm sp cA dC dI B sa Y p R s mm args meth c → gAt cA dC dI B sa R s w m H locs cells slots → gH B sa arr (yL Y) ls → (∀ arr' : Array Slot, gH B sa arr' (yL Y) ls' → W p l e R s mm args below meth c H locs cells slots Q (F0 mm pc' arr' (st'.map (gC B sa)))) → W p l e R s mm args below meth c H locs cells slots Q (F0 mm pc arr (st.map (gC B sa)))) :
    gGo l ss sm sp cA dC dI B sa Y pc ls st w m (pc', ls', st', w, m) := by
  intro hi
  obtain ⟨a1, a2⟩ := h1 hi.1 hi.2.1 hi.2.2
  refine ⟨⟨a1, a2, hi.2.2⟩, Nat.le_refl _, Nat.le_refl _, ?_⟩
  intro p e R s mm args below meth c H locs cells slots arr Q hE hA hH hc hs kk
  dsimp only at kk hc hs ⊢
  rw [Nat.sub_self, Nat.add_zero] at kk
  rw [Nat.sub_self, Nat.add_zero] at kk
  exact h2 hi hE hA hH (fun arr' hH' => kk H locs arr' hA hH')
variable {Y : gY} {pc len : Nat} {ls st : List gV} {w : gW} {m : gM} {x : gX}
theorem okV_get {ls : List gV} {i : Nat} {v : gV} (h : ∀ v ∈ ls, okV v) (hi : ls[i]? = some v) : okV v := h v (List.mem_of_getElem? hi)
theorem sd_ld {t i : Nat} {ins : Instr} (h : xLd pc len t i ls st w m = some x)
    (hr : ∀ {p : Program} {e : Env} {R : Room} {s : State} {mm : MethodId} {args : Array Value} {below : List Frame} {meth : Method} {c : Code} {H : Heap} {locs : List Loc} {cells slots : Nat} {arr : Array Slot} {Q : State → Prop} {v : gV} {rest : List Value}, p.tables.exec = Jvm.exec → c.code = yC Y → v.1 = t → arr[i]? = some (.val (gC B sa v)) →
      W p l e R s mm args below meth c H locs cells slots Q (F0 mm (pc + len) arr (gC B sa v :: rest)) → W p l e R s mm args below meth c H locs cells slots Q (F0 mm pc arr rest)) (ht : t < 3) :
    gGo l ss sm sp cA dC dI B sa Y pc ls st w m x := by
  unfold xLd at h
  split at h
  · rename_i v hv
    split at h
    · rename_i e1
      cases h
      refine gGo.of (fun a b _ => ⟨a, fun u hu => ?_⟩) ?_
      · rcases List.mem_cons.mp hu with rfl | hu
        · exact okV_get a hv
        · exact b u hu
      · intro p e R s mm args below meth c H locs cells slots arr Q hi hE hA hH kk
        exact hr hE.1 hE.2.1 e1 (gH_get hH hv (by omega)) (kk arr hH)
    · cases h
  · cases h
theorem gC_t0 {v : gV} (h : v.1 = 0) : gC B sa v = .int (Int32.ofInt v.2) := by
  obtain ⟨t, z⟩ := v
  dsimp only at h
  subst h
  rfl
theorem gC_t1 {v : gV} (h : v.1 = 1) : gC B sa v = .long (Int64.ofInt v.2) := by
  obtain ⟨t, z⟩ := v
  dsimp only at h
  subst h
  rfl
theorem gC_t2 {v : gV} (h : v.1 = 2) : gC B sa v = .null ∨ ∃ a, gC B sa v = .ref a := by
  obtain ⟨t, z⟩ := v
  dsimp only at h
  subst h
  exact gC_rf z
theorem sd_iload_n {k : Fin 4} (hd : decode (yC Y) pc = .ok (.iload_n k, 1)) (h : xLd pc 1 0 k.val ls st w m = some x) : gGo l ss sm sp cA dC dI B sa Y pc ls st w m x :=
  sd_ld (ins := .iload_n k) h (fun hx hb ht ha kk => by
    rw [gC_t0 ht] at ha kk
    exact lv_iload_n hx hb hd rfl ha kk) (by omega)
theorem sd_iload {k : Nat} (hd : decode (yC Y) pc = .ok (.iload k, 2)) (h : xLd pc 2 0 k ls st w m = some x) : gGo l ss sm sp cA dC dI B sa Y pc ls st w m x :=
  sd_ld (ins := .iload k) h (fun hx hb ht ha kk => by
    rw [gC_t0 ht] at ha kk
    exact lv_iload hx hb hd ha kk) (by omega)
theorem sd_lload_n {k : Fin 4} (hd : decode (yC Y) pc = .ok (.lload_n k, 1)) (h : xLd pc 1 1 k.val ls st w m = some x) : gGo l ss sm sp cA dC dI B sa Y pc ls st w m x :=
  sd_ld (ins := .lload_n k) h (fun hx hb ht ha kk => by
    rw [gC_t1 ht] at ha kk
    exact lv_lload_n hx hb hd rfl ha kk) (by omega)
theorem sd_lload {k : Nat} (hd : decode (yC Y) pc = .ok (.lload k, 2)) (h : xLd pc 2 1 k ls st w m = some x) : gGo l ss sm sp cA dC dI B sa Y pc ls st w m x :=
  sd_ld (ins := .lload k) h (fun hx hb ht ha kk => by
    rw [gC_t1 ht] at ha kk
    exact lv_lload hx hb hd ha kk) (by omega)
theorem sd_aload_n {k : Fin 4} (hd : decode (yC Y) pc = .ok (.aload_n k, 1)) (h : xLd pc 1 2 k.val ls st w m = some x) : gGo l ss sm sp cA dC dI B sa Y pc ls st w m x :=
  sd_ld (ins := .aload_n k) h (fun hx hb ht ha kk => by
    rcases gC_t2 (B := B) (sa := sa) ht with q | ⟨a, q⟩
    · rw [q] at ha kk
      exact lv_aload_nN hx hb hd rfl ha kk
    · rw [q] at ha kk
      exact lv_aload_n hx hb hd rfl ha kk) (by omega)
theorem sd_aload {k : Nat} (hd : decode (yC Y) pc = .ok (.aload k, 2)) (h : xLd pc 2 2 k ls st w m = some x) : gGo l ss sm sp cA dC dI B sa Y pc ls st w m x :=
  sd_ld (ins := .aload k) h (fun hx hb ht ha kk => by
    rcases gC_t2 (B := B) (sa := sa) ht with q | ⟨a, q⟩
    · rw [q] at ha kk
      exact lv_aloadN hx hb hd ha kk
    · rw [q] at ha kk
      exact lv_aload hx hb hd ha kk) (by omega)
theorem sd_st {t i : Nat} {ins : Instr} (h : xSt pc len t i (yL Y) ls st w m = some x)
    (hr : ∀ {p : Program} {e : Env} {R : Room} {s : State} {mm : MethodId} {args : Array Value} {below : List Frame} {meth : Method} {c : Code} {H : Heap} {locs : List Loc} {cells slots : Nat} {arr : Array Slot} {Q : State → Prop} {v : gV} {rest : List Value} {lv : List (Nat × Value)}, p.tables.exec = Jvm.exec → c.code = yC Y → v.1 = t → i < yL Y → lv_has arr (yL Y) lv →
      (∀ arr', lv_has arr' (yL Y) ((i, gC B sa v) :: lv.filter (fun q => !(q.1 == i) && !(q.1 + 1 == i && q.2.category == 2))) → W p l e R s mm args below meth c H locs cells slots Q (F0 mm (pc + len) arr' rest)) → W p l e R s mm args below meth c H locs cells slots Q (F0 mm pc arr (gC B sa v :: rest))) :
    gGo l ss sm sp cA dC dI B sa Y pc ls st w m x := by
  unfold xSt at h
  split at h
  · rename_i v st'
    split at h
    · rename_i e1
      cases h
      refine gGo.of (fun a b _ => ⟨gstA_ok (b v List.mem_cons_self) a, fun u hu => b u (List.mem_cons_of_mem _ hu)⟩) ?_
      intro p e R s mm args below meth c H locs cells slots arr Q hi hE hA hH kk
      obtain ⟨lv, h1, h2⟩ := hH
      exact hr hE.1 hE.2.1 e1.1 e1.2 h1 (fun arr' h3 => kk arr' (gH_A h2 h3))
    · cases h
  · cases h
theorem sd_istore_n {k : Fin 4} (hd : decode (yC Y) pc = .ok (.istore_n k, 1)) (h : xSt pc 1 0 k.val (yL Y) ls st w m = some x) : gGo l ss sm sp cA dC dI B sa Y pc ls st w m x :=
  sd_st (ins := .istore_n k) h (fun hx hb ht hn hl kk => by
    rw [gC_t0 ht] at kk ⊢
    exact lv_istore_n hx hb hd rfl hl hn rfl kk)
theorem sd_istore {k : Nat} (hd : decode (yC Y) pc = .ok (.istore k, 2)) (h : xSt pc 2 0 k (yL Y) ls st w m = some x) : gGo l ss sm sp cA dC dI B sa Y pc ls st w m x :=
  sd_st (ins := .istore k) h (fun hx hb ht hn hl kk => by
    rw [gC_t0 ht] at kk ⊢
    exact lv_istore hx hb hd hl hn rfl kk)
theorem sd_astore_n {k : Fin 4} (hd : decode (yC Y) pc = .ok (.astore_n k, 1)) (h : xSt pc 1 2 k.val (yL Y) ls st w m = some x) : gGo l ss sm sp cA dC dI B sa Y pc ls st w m x :=
  sd_st (ins := .astore_n k) h (fun hx hb ht hn hl kk => by
    rcases gC_t2 (B := B) (sa := sa) ht with q | ⟨a, q⟩
    · rw [q] at kk ⊢
      exact lv_astore_nN hx hb hd rfl hl hn rfl kk
    · rw [q] at kk ⊢
      exact lv_astore_n hx hb hd rfl hl hn rfl kk)
theorem sd_astore {k : Nat} (hd : decode (yC Y) pc = .ok (.astore k, 2)) (h : xSt pc 2 2 k (yL Y) ls st w m = some x) : gGo l ss sm sp cA dC dI B sa Y pc ls st w m x :=
  sd_st (ins := .astore k) h (fun hx hb ht hn hl kk => by
    rcases gC_t2 (B := B) (sa := sa) ht with q | ⟨a, q⟩
    · rw [q] at kk ⊢
      exact lv_astoreN hx hb hd hl hn rfl kk
    · rw [q] at kk ⊢
      exact lv_astore hx hb hd hl hn rfl kk)
theorem sd_stL {i : Nat} {ins : Instr} (h : xStL pc len i (yL Y) ls st w m = some x)
    (hr : ∀ {p : Program} {e : Env} {R : Room} {s : State} {mm : MethodId} {args : Array Value} {below : List Frame} {meth : Method} {c : Code} {H : Heap} {locs : List Loc} {cells slots : Nat} {arr : Array Slot} {Q : State → Prop} {v : gV} {rest : List Value} {lv : List (Nat × Value)}, p.tables.exec = Jvm.exec → c.code = yC Y → v.1 = 1 → i + 1 < yL Y → lv_has arr (yL Y) lv →
      (∀ arr', lv_has arr' (yL Y) ((i, gC B sa v) :: lv.filter (fun q => !(q.1 == i) && (!(q.1 == i + 1) && !(q.1 + 1 == i && q.2.category == 2)))) → W p l e R s mm args below meth c H locs cells slots Q (F0 mm (pc + len) arr' rest)) → W p l e R s mm args below meth c H locs cells slots Q (F0 mm pc arr (gC B sa v :: rest))) :
    gGo l ss sm sp cA dC dI B sa Y pc ls st w m x := by
  unfold xStL at h
  split at h
  · rename_i v st'
    split at h
    · rename_i e1
      cases h
      refine gGo.of (fun a b _ => ⟨gstB_ok (b v List.mem_cons_self) a, fun u hu => b u (List.mem_cons_of_mem _ hu)⟩) ?_
      intro p e R s mm args below meth c H locs cells slots arr Q hi hE hA hH kk
      obtain ⟨lv, h1, h2⟩ := hH
      exact hr hE.1 hE.2.1 e1.1 e1.2 h1 (fun arr' h3 => kk arr' (gH_B h2 h3))
    · cases h
  · cases h
theorem sd_lstore_n {k : Fin 4} (hd : decode (yC Y) pc = .ok (.lstore_n k, 1)) (h : xStL pc 1 k.val (yL Y) ls st w m = some x) : gGo l ss sm sp cA dC dI B sa Y pc ls st w m x :=
  sd_stL (ins := .lstore_n k) h (fun hx hb ht hn hl kk => by
    rw [gC_t1 ht] at kk ⊢
    exact lv_lstore_n hx hb hd rfl hl hn rfl kk)
theorem sd_lstore {k : Nat} (hd : decode (yC Y) pc = .ok (.lstore k, 2)) (h : xStL pc 2 k (yL Y) ls st w m = some x) : gGo l ss sm sp cA dC dI B sa Y pc ls st w m x :=
  sd_stL (ins := .lstore k) h (fun hx hb ht hn hl kk => by
    rw [gC_t1 ht] at kk ⊢
    exact lv_lstore hx hb hd hl hn rfl kk)
theorem of32 (x : Int32) : Int32.ofInt x.toInt = x := Int32.ofInt_toInt x
theorem of64 (x : Int64) : Int64.ofInt x.toInt = x := Int64.ofInt_toInt x
theorem sd_inc {i : Nat} {k : Int} (hd : decode (yC Y) pc = .ok (.iinc i k, 3)) (h : xInc pc i k (yL Y) ls st w m = some x) : gGo l ss sm sp cA dC dI B sa Y pc ls st w m x := by
  unfold xInc at h
  split at h
  · rename_i v hv
    split at h
    · rename_i e1
      cases h
      refine gGo.of (fun a b _ => ⟨gstA_ok (okI32 _) a, b⟩) ?_
      intro p e R s mm args below meth c H locs cells slots arr Q hi hE hA hH kk
      obtain ⟨lv, h1, h2⟩ := hH
      have h3 := h2 i v hv (by omega)
      rw [gC_t0 e1.1] at h3
      obtain ⟨j, hj⟩ := List.getElem?_of_mem h3
      refine lv_iinc hE.1 hE.2.1 hd h1 (k := j) hj rfl e1.2 rfl (fun arr' h4 => kk arr' (gH_A (v := (0, iadd v.2 k)) h2 ?_))
      have e2 : gC B sa (0, iadd v.2 k) = .int (Int32.ofInt v.2 + Int32.ofInt k) := by
        show Value.int (Int32.ofInt (iadd v.2 k)) = _
        rw [iadd, of32]
      rw [e2]
      exact h4
    · cases h
  · cases h
theorem okV0 {f : Int} (h : okI f) : okV (0, f) := h
theorem okV1 {f : Int} (h : okL f) : okV (1, f) := h
/-- two numbers: one -/
theorem sd_bi {t u : Nat} {f : Int → Int → Int} (h : xBi pc t u f ls st w m = some x) (hok : ∀ a b : gV, okV a → okV b → a.1 = t → b.1 = t → okV (u, f a.2 b.2))
    (hr : ∀ {p : Program} {e : Env} {R : Room} {s : State} {mm : MethodId} {args : Array Value} {below : List Frame} {meth : Method} {c : Code} {H : Heap} {locs : List Loc} {cells slots : Nat} {arr : Array Slot} {Q : State → Prop} {a b : gV} {rest : List Value}, p.tables.exec = Jvm.exec → c.code = yC Y → okV a → okV b → a.1 = t → b.1 = t →
      W p l e R s mm args below meth c H locs cells slots Q (F0 mm (pc + 1) arr (gC B sa (u, f a.2 b.2) :: rest)) → W p l e R s mm args below meth c H locs cells slots Q (F0 mm pc arr (gC B sa b :: gC B sa a :: rest))) :
    gGo l ss sm sp cA dC dI B sa Y pc ls st w m x := by
  unfold xBi at h
  split at h
  · rename_i b a st'
    split at h
    · rename_i e1
      cases h
      refine gGo.of (fun q1 q2 _ => ⟨q1, fun v hv => ?_⟩) ?_
      · rcases List.mem_cons.mp hv with rfl | hv
        · exact hok a b (q2 a (by simp)) (q2 b (by simp)) e1.2 e1.1
        · exact q2 v (by simp [hv])
      · intro p e R s mm args below meth c H locs cells slots arr Q hi hE hA hH kk
        exact hr hE.1 hE.2.1 (hi.2.1 a (by simp)) (hi.2.1 b (by simp)) e1.2 e1.1 (kk arr hH)
    · cases h
  · cases h
theorem sd_dv {t : Nat} {f : Int → Int → Int} (h : xDv pc t f ls st w m = some x) (hok : ∀ a b : gV, okV (t, f a.2 b.2))
    (hr : ∀ {p : Program} {e : Env} {R : Room} {s : State} {mm : MethodId} {args : Array Value} {below : List Frame} {meth : Method} {c : Code} {H : Heap} {locs : List Loc} {cells slots : Nat} {arr : Array Slot} {Q : State → Prop} {a b : gV} {rest : List Value}, p.tables.exec = Jvm.exec → c.code = yC Y → okV b → a.1 = t → b.1 = t → b.2 ≠ 0 →
      W p l e R s mm args below meth c H locs cells slots Q (F0 mm (pc + 1) arr (gC B sa (t, f a.2 b.2) :: rest)) → W p l e R s mm args below meth c H locs cells slots Q (F0 mm pc arr (gC B sa b :: gC B sa a :: rest))) :
    gGo l ss sm sp cA dC dI B sa Y pc ls st w m x := by
  unfold xDv at h
  split at h
  · rename_i b a st'
    split at h
    · rename_i e1
      cases h
      refine gGo.of (fun q1 q2 _ => ⟨q1, fun v hv => ?_⟩) ?_
      · rcases List.mem_cons.mp hv with rfl | hv
        · exact hok a b
        · exact q2 v (by simp [hv])
      · intro p e R s mm args below meth c H locs cells slots arr Q hi hE hA hH kk
        exact hr hE.1 hE.2.1 (hi.2.1 b (by simp)) e1.2.1 e1.1 e1.2.2 (kk arr hH)
    · cases h
  · cases h
theorem sd_un {t u : Nat} {f : Int → Int} (h : xUn pc t u f ls st w m = some x) (hok : ∀ a : gV, okV a → a.1 = t → okV (u, f a.2))
    (hr : ∀ {p : Program} {e : Env} {R : Room} {s : State} {mm : MethodId} {args : Array Value} {below : List Frame} {meth : Method} {c : Code} {H : Heap} {locs : List Loc} {cells slots : Nat} {arr : Array Slot} {Q : State → Prop} {a : gV} {rest : List Value}, p.tables.exec = Jvm.exec → c.code = yC Y → okV a → a.1 = t →
      W p l e R s mm args below meth c H locs cells slots Q (F0 mm (pc + 1) arr (gC B sa (u, f a.2) :: rest)) → W p l e R s mm args below meth c H locs cells slots Q (F0 mm pc arr (gC B sa a :: rest))) :
    gGo l ss sm sp cA dC dI B sa Y pc ls st w m x := by
  unfold xUn at h
  split at h
  · rename_i a st'
    split at h
    · rename_i e1
      cases h
      refine gGo.of (fun q1 q2 _ => ⟨q1, fun v hv => ?_⟩) ?_
      · rcases List.mem_cons.mp hv with rfl | hv
        · exact hok a (q2 a (by simp)) e1
        · exact q2 v (by simp [hv])
      · intro p e R s mm args below meth c H locs cells slots arr Q hi hE hA hH kk
        exact hr hE.1 hE.2.1 (hi.2.1 a (by simp)) e1 (kk arr hH)
    · cases h
  · cases h
end SND
