/-! SOUND, second part: numbers, constants, the stack, branches, places of cells. -/
section SND2
variable {l : Launch} {ss : Int → Nat × Nat} {sm sp : Int → Int → Int} {cA dC : Nat → ClassId} {dI : Nat → Nat → Nat} {B : Nat} {sa : Nat → Nat} {Y : gY} {pc len : Nat} {ls st : List gV} {w : gW} {m : gM} {x : gX}
theorem sd_iadd (hd : decode (yC Y) pc = .ok (.iadd, 1)) (h : xBi pc 0 0 iadd ls st w m = some x) : gGo l ss sm sp cA dC dI B sa Y pc ls st w m x :=
  sd_bi h (fun _ _ _ _ _ _ => okV0 (okI32 _)) (fun hx hb _ _ ha hbb kk => by
    rw [gC_t0 ha, gC_t0 hbb]
    refine lv_iadd hx hb hd ?_
    rw [gC_i, iadd, of32] at kk
    exact kk)
theorem sd_isub (hd : decode (yC Y) pc = .ok (.isub, 1)) (h : xBi pc 0 0 isub ls st w m = some x) : gGo l ss sm sp cA dC dI B sa Y pc ls st w m x :=
  sd_bi h (fun _ _ _ _ _ _ => okV0 (okI32 _)) (fun hx hb _ _ ha hbb kk => by
    rw [gC_t0 ha, gC_t0 hbb]
    refine lv_isub hx hb hd ?_
    rw [gC_i, isub, of32] at kk
    exact kk)
theorem sd_imul (hd : decode (yC Y) pc = .ok (.imul, 1)) (h : xBi pc 0 0 imul ls st w m = some x) : gGo l ss sm sp cA dC dI B sa Y pc ls st w m x :=
  sd_bi h (fun _ _ _ _ _ _ => okV0 (okI32 _)) (fun hx hb _ _ ha hbb kk => by
    rw [gC_t0 ha, gC_t0 hbb]
    refine lv_imul hx hb hd ?_
    rw [gC_i, imul, of32] at kk
    exact kk)
theorem sd_iand (hd : decode (yC Y) pc = .ok (.iand, 1)) (h : xBi pc 0 0 iand ls st w m = some x) : gGo l ss sm sp cA dC dI B sa Y pc ls st w m x :=
  sd_bi h (fun _ _ _ _ _ _ => okV0 (okI32 _)) (fun hx hb _ _ ha hbb kk => by
    rw [gC_t0 ha, gC_t0 hbb]
    refine lv_iand hx hb hd ?_
    rw [gC_i, iand, of32] at kk
    exact kk)
theorem sd_ior (hd : decode (yC Y) pc = .ok (.ior, 1)) (h : xBi pc 0 0 ior ls st w m = some x) : gGo l ss sm sp cA dC dI B sa Y pc ls st w m x :=
  sd_bi h (fun _ _ _ _ _ _ => okV0 (okI32 _)) (fun hx hb _ _ ha hbb kk => by
    rw [gC_t0 ha, gC_t0 hbb]
    refine lv_ior hx hb hd ?_
    rw [gC_i, ior, of32] at kk
    exact kk)
theorem sd_ishl (hd : decode (yC Y) pc = .ok (.ishl, 1)) (h : xBi pc 0 0 ishl ls st w m = some x) : gGo l ss sm sp cA dC dI B sa Y pc ls st w m x :=
  sd_bi h (fun _ _ _ _ _ _ => okV0 (okI32 _)) (fun hx hb _ _ ha hbb kk => by
    rw [gC_t0 ha, gC_t0 hbb]
    refine lv_ishl hx hb hd ?_
    rw [gC_i, ishl, of32] at kk
    exact kk)
theorem sd_ishr (hd : decode (yC Y) pc = .ok (.ishr, 1)) (h : xBi pc 0 0 ishr ls st w m = some x) : gGo l ss sm sp cA dC dI B sa Y pc ls st w m x :=
  sd_bi h (fun _ _ _ _ _ _ => okV0 (okI32 _)) (fun hx hb _ _ ha hbb kk => by
    rw [gC_t0 ha, gC_t0 hbb]
    refine lv_ishr hx hb hd ?_
    rw [gC_i, ishr, of32] at kk
    exact kk)
theorem sd_ladd (hd : decode (yC Y) pc = .ok (.ladd, 1)) (h : xBi pc 1 1 ladd ls st w m = some x) : gGo l ss sm sp cA dC dI B sa Y pc ls st w m x :=
  sd_bi h (fun _ _ _ _ _ _ => okV1 (okL64 _)) (fun hx hb _ _ ha hbb kk => by
    rw [gC_t1 ha, gC_t1 hbb]
    refine lv_ladd hx hb hd ?_
    rw [gC_l, ladd, of64] at kk
    exact kk)
theorem sd_lsub (hd : decode (yC Y) pc = .ok (.lsub, 1)) (h : xBi pc 1 1 lsub ls st w m = some x) : gGo l ss sm sp cA dC dI B sa Y pc ls st w m x :=
  sd_bi h (fun _ _ _ _ _ _ => okV1 (okL64 _)) (fun hx hb _ _ ha hbb kk => by
    rw [gC_t1 ha, gC_t1 hbb]
    refine lv_lsub hx hb hd ?_
    rw [gC_l, lsub, of64] at kk
    exact kk)
theorem sd_lmul (hd : decode (yC Y) pc = .ok (.lmul, 1)) (h : xBi pc 1 1 lmul ls st w m = some x) : gGo l ss sm sp cA dC dI B sa Y pc ls st w m x :=
  sd_bi h (fun _ _ _ _ _ _ => okV1 (okL64 _)) (fun hx hb _ _ ha hbb kk => by
    rw [gC_t1 ha, gC_t1 hbb]
    refine lv_lmul hx hb hd ?_
    rw [gC_l, lmul, of64] at kk
    exact kk)
theorem sd_land (hd : decode (yC Y) pc = .ok (.land, 1)) (h : xBi pc 1 1 land ls st w m = some x) : gGo l ss sm sp cA dC dI B sa Y pc ls st w m x :=
  sd_bi h (fun _ _ _ _ _ _ => okV1 (okL64 _)) (fun hx hb _ _ ha hbb kk => by
    rw [gC_t1 ha, gC_t1 hbb]
    refine lv_land hx hb hd ?_
    rw [gC_l, land, of64] at kk
    exact kk)
theorem sd_lor (hd : decode (yC Y) pc = .ok (.lor, 1)) (h : xBi pc 1 1 lor ls st w m = some x) : gGo l ss sm sp cA dC dI B sa Y pc ls st w m x :=
  sd_bi h (fun _ _ _ _ _ _ => okV1 (okL64 _)) (fun hx hb _ _ ha hbb kk => by
    rw [gC_t1 ha, gC_t1 hbb]
    refine lv_lor hx hb hd ?_
    rw [gC_l, lor, of64] at kk
    exact kk)
theorem okV_t0 {v : gV} (h : okV v) (ht : v.1 = 0) : okI v.2 := by
  obtain ⟨t, z⟩ := v
  dsimp only at ht
  subst ht
  exact h
theorem okV_t1 {v : gV} (h : okV v) (ht : v.1 = 1) : okL v.2 := by
  obtain ⟨t, z⟩ := v
  dsimp only at ht
  subst ht
  exact h
theorem lt32 {a b : Int} (ha : okI a) (hb : okI b) : Int32.ofInt a < Int32.ofInt b ↔ a < b := by rw [Int32.lt_iff_toInt_lt, to32 ha, to32 hb]
theorem le32 {a b : Int} (ha : okI a) (hb : okI b) : Int32.ofInt a ≤ Int32.ofInt b ↔ a ≤ b := by rw [Int32.le_iff_toInt_le, to32 ha, to32 hb]
theorem eq32 {a b : Int} (ha : okI a) (hb : okI b) : Int32.ofInt a = Int32.ofInt b ↔ a = b := by rw [← Int32.toInt_inj, to32 ha, to32 hb]
theorem lt64 {a b : Int} (ha : okL a) (hb : okL b) : Int64.ofInt a < Int64.ofInt b ↔ a < b := by rw [Int64.lt_iff_toInt_lt, to64 ha, to64 hb]
theorem eq64 {a b : Int} (ha : okL a) (hb : okL b) : Int64.ofInt a = Int64.ofInt b ↔ a = b := by rw [← Int64.toInt_inj, to64 ha, to64 hb]
theorem okI_lcmp (a b : Int) : okI (lcmp a b) := by
  unfold lcmp
  split
  · exact ⟨by decide, by decide⟩
  · split <;> exact ⟨by decide, by decide⟩
theorem sd_lcmp (hd : decode (yC Y) pc = .ok (.lcmp, 1)) (h : xBi pc 1 0 lcmp ls st w m = some x) : gGo l ss sm sp cA dC dI B sa Y pc ls st w m x :=
  sd_bi h (fun _ _ _ _ _ _ => okV0 (okI_lcmp _ _)) (fun {p e R s mm args below meth c H locs cells slots arr Q a b rest} hx hb oa ob ha hbb kk => by
    rw [gC_t1 ha, gC_t1 hbb]
    refine W.lcmp hx hb hd ?_
    have e1 : lg_cmp (Int64.ofInt a.2) (Int64.ofInt b.2) = Int32.ofInt (lcmp a.2 b.2) := by
      unfold lg_cmp lcmp
      have h1 := lt64 (okV_t1 ob hbb) (okV_t1 oa ha)
      have h2 := eq64 (okV_t1 oa ha) (okV_t1 ob hbb)
      by_cases c1 : b.2 < a.2
      · simp [c1, h1]
      · by_cases c2 : a.2 = b.2
        · simp [c2]
        · simp [c1, c2, h1, h2]
    rw [e1]
    exact kk)
theorem sd_idiv (hd : decode (yC Y) pc = .ok (.idiv, 1)) (h : xDv pc 0 idiv ls st w m = some x) : gGo l ss sm sp cA dC dI B sa Y pc ls st w m x :=
  sd_dv h (fun _ _ => okV0 (okI32 _)) (fun hx hb ob ha hbb hn kk => by
    rw [gC_t0 ha, gC_t0 hbb]
    refine lv_idiv hx hb hd (fun q => hn ?_) ?_
    · have e : Int32.ofInt _ = Int32.ofInt 0 := q
      exact (eq32 (okV_t0 ob hbb) ⟨by decide, by decide⟩).mp e
    · rw [gC_i, idiv, of32] at kk
      exact kk)
theorem sd_irem (hd : decode (yC Y) pc = .ok (.irem, 1)) (h : xDv pc 0 irem ls st w m = some x) : gGo l ss sm sp cA dC dI B sa Y pc ls st w m x :=
  sd_dv h (fun _ _ => okV0 (okI32 _)) (fun hx hb ob ha hbb hn kk => by
    rw [gC_t0 ha, gC_t0 hbb]
    refine lv_irem hx hb hd (fun q => hn ?_) ?_
    · have e : Int32.ofInt _ = Int32.ofInt 0 := q
      exact (eq32 (okV_t0 ob hbb) ⟨by decide, by decide⟩).mp e
    · rw [gC_i, irem, of32] at kk
      exact kk)
theorem sd_ldiv (hd : decode (yC Y) pc = .ok (.ldiv, 1)) (h : xDv pc 1 ldiv ls st w m = some x) : gGo l ss sm sp cA dC dI B sa Y pc ls st w m x :=
  sd_dv h (fun _ _ => okV1 (okL64 _)) (fun hx hb ob ha hbb hn kk => by
    rw [gC_t1 ha, gC_t1 hbb]
    refine lv_ldiv hx hb hd (fun q => hn ?_) ?_
    · have e : Int64.ofInt _ = Int64.ofInt 0 := q
      exact (eq64 (okV_t1 ob hbb) ⟨by decide, by decide⟩).mp e
    · rw [gC_l, ldiv, of64] at kk
      exact kk)
theorem sd_lrem (hd : decode (yC Y) pc = .ok (.lrem, 1)) (h : xDv pc 1 lrem ls st w m = some x) : gGo l ss sm sp cA dC dI B sa Y pc ls st w m x :=
  sd_dv h (fun _ _ => okV1 (okL64 _)) (fun hx hb ob ha hbb hn kk => by
    rw [gC_t1 ha, gC_t1 hbb]
    refine lv_lrem hx hb hd (fun q => hn ?_) ?_
    · have e : Int64.ofInt _ = Int64.ofInt 0 := q
      exact (eq64 (okV_t1 ob hbb) ⟨by decide, by decide⟩).mp e
    · rw [gC_l, lrem, of64] at kk
      exact kk)
theorem sd_ineg (hd : decode (yC Y) pc = .ok (.ineg, 1)) (h : xUn pc 0 0 ineg ls st w m = some x) : gGo l ss sm sp cA dC dI B sa Y pc ls st w m x :=
  sd_un h (fun _ _ _ => okV0 (okI32 _)) (fun hx hb _ ha kk => by
    rw [gC_t0 ha]
    refine lv_ineg hx hb hd ?_
    rw [gC_i, ineg, of32] at kk
    exact kk)
theorem sd_lneg (hd : decode (yC Y) pc = .ok (.lneg, 1)) (h : xUn pc 1 1 lneg ls st w m = some x) : gGo l ss sm sp cA dC dI B sa Y pc ls st w m x :=
  sd_un h (fun _ _ _ => okV1 (okL64 _)) (fun hx hb _ ha kk => by
    rw [gC_t1 ha]
    refine lv_lneg hx hb hd ?_
    rw [gC_l, lneg, of64] at kk
    exact kk)
theorem sd_i2l (hd : decode (yC Y) pc = .ok (.i2l, 1)) (h : xUn pc 0 1 (fun z => z) ls st w m = some x) : gGo l ss sm sp cA dC dI B sa Y pc ls st w m x :=
  sd_un h (fun _ o t => okV1 (okIL (okV_t0 o t))) (fun {p e R s mm args below meth c H locs cells slots arr Q a rest} hx hb oa ha kk => by
    rw [gC_t0 ha]
    refine lv_i2l hx hb hd (v := Int64.ofInt a.2) ?_ kk
    have o := okV_t0 oa ha
    rw [← Int64.toInt_inj, Int32.toInt_toInt64, to32 o, to64 (okIL o)])
theorem sd_l2i (hd : decode (yC Y) pc = .ok (.l2i, 1)) (h : xUn pc 1 0 l2i ls st w m = some x) : gGo l ss sm sp cA dC dI B sa Y pc ls st w m x :=
  sd_un h (fun _ _ _ => okV0 (okI32 _)) (fun hx hb _ ha kk => by
    rw [gC_t1 ha]
    refine lv_l2i hx hb hd rfl ?_
    rw [gC_i, l2i, of32] at kk
    exact kk)
theorem sd_i2b (hd : decode (yC Y) pc = .ok (.i2b, 1)) (h : xUn pc 0 0 i2b ls st w m = some x) : gGo l ss sm sp cA dC dI B sa Y pc ls st w m x :=
  sd_un h (fun _ _ _ => okV0 (okI32 _)) (fun hx hb _ ha kk => by
    rw [gC_t0 ha]
    refine lv_i2b hx hb hd rfl ?_
    rw [gC_i, i2b, of32] at kk
    exact kk)
theorem sd_i2s (hd : decode (yC Y) pc = .ok (.i2s, 1)) (h : xUn pc 0 0 i2s ls st w m = some x) : gGo l ss sm sp cA dC dI B sa Y pc ls st w m x :=
  sd_un h (fun _ _ _ => okV0 (okI32 _)) (fun hx hb _ ha kk => by
    rw [gC_t0 ha]
    refine lv_i2s hx hb hd rfl ?_
    rw [gC_i, i2s, of32] at kk
    exact kk)
theorem sd_i2c (hd : decode (yC Y) pc = .ok (.i2c, 1)) (h : xUn pc 0 0 i2c ls st w m = some x) : gGo l ss sm sp cA dC dI B sa Y pc ls st w m x :=
  sd_un h (fun _ _ _ => okV0 (okI32 _)) (fun hx hb _ ha kk => by
    rw [gC_t0 ha]
    refine lv_i2c hx hb hd rfl ?_
    rw [gC_i, i2c, of32] at kk
    exact kk)
theorem sd_lshl (hd : decode (yC Y) pc = .ok (.lshl, 1)) (h : xShl pc lshl ls st w m = some x) : gGo l ss sm sp cA dC dI B sa Y pc ls st w m x := by
  unfold xShl at h
  split at h
  · rename_i b a st'
    split at h
    · rename_i e1
      cases h
      refine gGo.of (fun q1 q2 _ => ⟨q1, fun v hv => ?_⟩) ?_
      · rcases List.mem_cons.mp hv with rfl | hv
        · exact okV1 (okL64 _)
        · exact q2 v (by simp [hv])
      · intro p e R s mm args below meth c H locs cells slots arr Q hi hE hA hH kk
        have kk := kk arr hH
        rw [List.map_cons, List.map_cons, gC_t0 e1.1, gC_t1 e1.2]
        refine lv_lshl hE.1 hE.2.1 hd rfl ?_
        rw [List.map_cons, gC_l, lshl, of64] at kk
        exact kk
    · cases h
  · cases h
theorem gGo.push {pc' : Nat} {v : gV} (hv : gOk ss sm sp w m → okV v) (hr : ∀ {p : Program} {e : Env} {R : Room} {s : State} {mm : MethodId} {args : Array Value} {below : List Frame} {meth : Method} {c : Code} {H : Heap} {locs : List Loc} {cells slots : Nat} {arr : Array Slot} {Q : State → Prop} {rest : List Value}, gIv ss sm sp ls st w m → gEnv ss sm sp cA dC dI B sa Y p R s mm args meth c → gAt cA dC dI B sa R s w m H locs cells slots →
      W p l e R s mm args below meth c H locs cells slots Q (F0 mm pc' arr (gC B sa v :: rest)) → W p l e R s mm args below meth c H locs cells slots Q (F0 mm pc arr rest)) : gGo l ss sm sp cA dC dI B sa Y pc ls st w m (pc', ls, v :: st, w, m) := by
  refine gGo.of (fun q1 q2 q3 => ⟨q1, fun u hu => ?_⟩) ?_
  · rcases List.mem_cons.mp hu with rfl | hu
    · exact hv q3
    · exact q2 u hu
  · intro p e R s mm args below meth c H locs cells slots arr Q hi hE hA hH kk
    exact hr hi hE hA (kk arr hH)
theorem sd_iconst {z : Int} (hd : decode (yC Y) pc = .ok (.iconst z, 1)) (h : (if -1 ≤ z ∧ z ≤ 5 then xPu pc 1 (0, z) ls st w m else none) = some x) : gGo l ss sm sp cA dC dI B sa Y pc ls st w m x := by
  split at h
  · rename_i hz
    cases h
    exact gGo.push (fun _ => okV0 ⟨by omega, by omega⟩) (fun _ hE _ kk => lv_iconst hE.1 hE.2.1 hd rfl kk)
  · cases h
theorem sd_bipush {z : Int} (hd : decode (yC Y) pc = .ok (.bipush z, 2)) (h : (if -128 ≤ z ∧ z ≤ 127 then xPu pc 2 (0, z) ls st w m else none) = some x) : gGo l ss sm sp cA dC dI B sa Y pc ls st w m x := by
  split at h
  · rename_i hz
    cases h
    refine gGo.push (fun _ => okV0 ⟨by omega, by omega⟩) (fun _ hE _ kk => lv_bipush hE.1 hE.2.1 hd ?_ kk)
    rw [← Int32.toInt_inj, Int8.toInt_toInt32, Int8.toInt_ofInt_of_le hz.1 (by omega), to32 ⟨by omega, by omega⟩]
  · cases h
theorem sd_sipush {z : Int} (hd : decode (yC Y) pc = .ok (.sipush z, 3)) (h : (if -32768 ≤ z ∧ z ≤ 32767 then xPu pc 3 (0, z) ls st w m else none) = some x) : gGo l ss sm sp cA dC dI B sa Y pc ls st w m x := by
  split at h
  · rename_i hz
    cases h
    refine gGo.push (fun _ => okV0 ⟨by omega, by omega⟩) (fun _ hE _ kk => lv_sipush hE.1 hE.2.1 hd ?_ kk)
    rw [← Int32.toInt_inj, Int16.toInt_toInt32, Int16.toInt_ofInt_of_le hz.1 (by omega), to32 ⟨by omega, by omega⟩]
  · cases h
theorem sd_lconst {f : Fin 2} (hd : decode (yC Y) pc = .ok (.lconst f, 1)) (h : xPu pc 1 (1, (f.val : Int)) ls st w m = some x) : gGo l ss sm sp cA dC dI B sa Y pc ls st w m x := by
  cases h
  refine gGo.push (fun _ => okV1 ⟨by omega, by omega⟩) (fun _ hE _ kk => lv_lconst hE.1 hE.2.1 hd ?_ kk)
  rfl
/-- constants of the pool -/
theorem tC_sp {o i : Nat} {v : gV} (h : tC o i = some v) : (v.1 = 0 ∧ okI v.2 ∧ Cond.constant (gCn o) i (Int32.ofInt v.2) ∈ gAW) ∨ (v.1 = 1 ∧ okL v.2 ∧ Cond.constantLong (gCn o) i (Int64.ofInt v.2) ∈ gAW) ∨ (v.1 = 2 ∧ o = 4 ∧ -12 ≤ v.2 ∧ v.2 ≤ -8) := by
  obtain ⟨p, hp⟩ := tC_ck h
  unfold ckC at hp
  split at hp
  · simp only [Bool.or_eq_true, Bool.and_eq_true, beq_iff_eq, decide_eq_true_eq] at hp
    rcases hp with (⟨⟨h1, h2⟩, h3⟩ | ⟨⟨h1, h2⟩, h3⟩) | ⟨⟨⟨h1, h2⟩, -⟩, h3⟩
    · exact Or.inl ⟨h1, h3, ckT_ok h2⟩
    · exact Or.inr (Or.inl ⟨h1, h3, ckT_ok h2⟩)
    · exact Or.inr (Or.inr ⟨h1, h2, h3⟩)
  · cases hp
theorem sd_ldc {idx : Nat} (hd : decode (yC Y) pc = .ok (.ldc idx, len)) (h : (if len = 2 then xPuC pc 2 0 (tC (yO Y) idx) ls st w m else none) = some x) : gGo l ss sm sp cA dC dI B sa Y pc ls st w m x := by
  split at h
  · rename_i hl
    subst hl
    unfold xPuC at h
    split at h
    · rename_i v hv
      split at h
      · rename_i ht
        cases h
        rcases tC_sp hv with ⟨h1, h2, h3⟩ | ⟨h1, -, -⟩ | ⟨h1, h2, h3, h4⟩
        · obtain ⟨t, z⟩ := v
          dsimp only at h1 h2 h3
          subst h1
          exact gGo.push (fun _ => okV0 h2) (fun _ hE _ kk => lv_ldc hE.1 hE.2.1 hE.2.2.2.1 (hE.2.2.2.2.1 _ h3) hd kk)
        · rw [h1] at ht
          simp at ht
        · obtain ⟨t, z⟩ := v
          dsimp only at h1 h2 h3 h4
          subst h1
          rw [h2] at hv
          refine gGo.push (fun _ => trivial) (fun _ hE _ kk => ?_)
          rw [gC_s (by omega)] at kk
          have ho := hE.2.2.2.1
          rw [h2] at ho
          exact va_ldcS hE.1 hE.2.1 ho (hE.2.2.2.2.2.2.2.2.2.1.2.2.2.2.1 idx z hv) hd kk
      · cases h
    · cases h
  · cases h
theorem sd_ldcw {idx : Nat} (hd : decode (yC Y) pc = .ok (.ldc_w idx, len)) (h : (if len = 3 then xPuW pc 3 (tC (yO Y) idx) ls st w m else none) = some x) : gGo l ss sm sp cA dC dI B sa Y pc ls st w m x := by
  split at h
  · rename_i hl
    subst hl
    unfold xPuW at h
    split at h
    · rename_i v hv
      split at h
      · rename_i ht
        cases h
        rcases tC_sp hv with ⟨h1, h2, h3⟩ | ⟨h1, -, -⟩ | ⟨h1, h2, h3, h4⟩
        · obtain ⟨t, z⟩ := v
          dsimp only at h1 h2 h3
          subst h1
          exact gGo.push (fun _ => okV0 h2) (fun _ hE _ kk => lv_ldcw hE.1 hE.2.1 hE.2.2.2.1 (hE.2.2.2.2.1 _ h3) hd kk)
        · omega
        · omega
      · cases h
    · cases h
  · cases h
theorem sd_ldc2 {idx : Nat} (hd : decode (yC Y) pc = .ok (.ldc2_w idx, len)) (h : (if len = 3 then xPuC pc 3 1 (tC (yO Y) idx) ls st w m else none) = some x) : gGo l ss sm sp cA dC dI B sa Y pc ls st w m x := by
  split at h
  · rename_i hl
    subst hl
    unfold xPuC at h
    split at h
    · rename_i v hv
      split at h
      · rename_i ht
        cases h
        have h1 : v.1 = 1 := by simpa using ht
        rcases tC_sp hv with ⟨h2, -, -⟩ | ⟨-, h2, h3⟩ | ⟨h2, -, -, -⟩
        · omega
        · obtain ⟨t, z⟩ := v
          dsimp only at h1 h2 h3
          subst h1
          exact gGo.push (fun _ => okV1 h2) (fun _ hE _ kk => lv_ldc2 hE.1 hE.2.1 hE.2.2.2.1 (hE.2.2.2.2.1 _ h3) hd kk)
        · omega
      · cases h
    · cases h
  · cases h
theorem cat1 {v : gV} (h : ¬ v.1 = 1) : (gC B sa v).category = 1 := by rw [gC_cat, gCat, if_neg h]
theorem cat2 {v : gV} (h : v.1 = 1) : (gC B sa v).category = 2 := by rw [gC_cat, gCat, if_pos h]
theorem sd_dup (hd : decode (yC Y) pc = .ok (.dup, 1)) (h : xDup pc ls st w m = some x) : gGo l ss sm sp cA dC dI B sa Y pc ls st w m x := by
  unfold xDup at h
  split at h
  · rename_i v st'
    split at h
    · cases h
    · rename_i hv
      cases h
      refine gGo.of (fun q1 q2 _ => ⟨q1, fun u hu => q2 u (by simp only [List.mem_cons] at hu ⊢; rcases hu with h | h | h <;> simp [h])⟩) (fun hi hE hA hH kk => ?_)
      exact lv_dup hE.1 hE.2.1 hd (cat1 hv) (kk _ hH)
  · cases h
theorem sd_dup2 (hd : decode (yC Y) pc = .ok (.dup2, 1)) (h : xDup2 pc ls st w m = some x) : gGo l ss sm sp cA dC dI B sa Y pc ls st w m x := by
  unfold xDup2 at h
  split at h
  · rename_i v st'
    split at h
    · rename_i hv
      cases h
      refine gGo.of (fun q1 q2 _ => ⟨q1, fun u hu => q2 u (by simp only [List.mem_cons] at hu ⊢; rcases hu with h | h | h <;> simp [h])⟩) (fun hi hE hA hH kk => ?_)
      exact lv_dup2_2 hE.1 hE.2.1 hd (cat2 hv) (kk _ hH)
    · rename_i hv
      split at h
      · rename_i u st2
        split at h
        · cases h
        · rename_i hu
          cases h
          refine gGo.of (fun q1 q2 _ => ⟨q1, fun u hu => q2 u (by simp only [List.mem_cons] at hu ⊢; rcases hu with h | h | h | h | h <;> simp [h])⟩) (fun hi hE hA hH kk => ?_)
          exact lv_dup2_11 hE.1 hE.2.1 hd (cat1 hv) (cat1 hu) (kk _ hH)
      · cases h
  · cases h
theorem sd_pop (hd : decode (yC Y) pc = .ok (.pop, 1)) (h : xPop pc ls st w m = some x) : gGo l ss sm sp cA dC dI B sa Y pc ls st w m x := by
  unfold xPop at h
  split at h
  · rename_i v st'
    split at h
    · cases h
    · rename_i hv
      cases h
      refine gGo.of (fun q1 q2 _ => ⟨q1, fun u hu => q2 u (by simp [hu])⟩) (fun hi hE hA hH kk => ?_)
      exact lv_pop hE.1 hE.2.1 hd (cat1 hv) (kk _ hH)
  · cases h
theorem sd_pop2 (hd : decode (yC Y) pc = .ok (.pop2, 1)) (h : xPop2 pc ls st w m = some x) : gGo l ss sm sp cA dC dI B sa Y pc ls st w m x := by
  unfold xPop2 at h
  split at h
  · rename_i v st'
    split at h
    · rename_i hv
      cases h
      refine gGo.of (fun q1 q2 _ => ⟨q1, fun u hu => q2 u (by simp [hu])⟩) (fun hi hE hA hH kk => ?_)
      exact lv_pop2_2 hE.1 hE.2.1 hd (cat2 hv) (kk _ hH)
    · cases h
  · cases h
theorem sd_goto {off : Int} (hd : decode (yC Y) pc = .ok (.goto off, 3)) (h : xJmp pc off ls st w m = some x) : gGo l ss sm sp cA dC dI B sa Y pc ls st w m x := by
  unfold xJmp at h
  split at h
  · rename_i h0
    cases h
    exact gGo.of (fun q1 q2 _ => ⟨q1, q2⟩) (fun hi hE hA hH kk => lv_goto hE.1 hE.2.1 hd (by omega) (kk _ hH))
  · cases h
theorem sd_if {cd : Jvm.ClassFile.Cond} {off : Int} (hd : decode (yC Y) pc = .ok (.ifCond cd off, 3)) (h : xIf pc cd off ls st w m = some x) : gGo l ss sm sp cA dC dI B sa Y pc ls st w m x := by
  unfold xIf at h
  split at h
  · rename_i a st'
    split at h
    · rename_i e1
      have key : ∀ tgt : Nat, (if gCd cd a.2 0 = true then tgt = ((pc : Int) + off).toNat else tgt = pc + 3) → x = (tgt, ls, st', w, m) → gGo l ss sm sp cA dC dI B sa Y pc ls (a :: st') w m x := by
        intro tgt ht hx
        subst hx
        refine gGo.of (fun q1 q2 _ => ⟨q1, fun u hu => q2 u (by simp [hu])⟩) (fun hi hE hA hH kk => ?_)
        have kk := kk _ hH
        have oa := okV_t0 (hi.2.1 a (by simp)) e1.1
        have o0 : okI 0 := ⟨by decide, by decide⟩
        rw [List.map_cons, gC_t0 e1.1]
        have z0 : (0 : Int32) = Int32.ofInt 0 := rfl
        have t1 : (pc : Int) + off = (((pc : Int) + off).toNat : Int) := by omega
        cases cd with
        | eq => exact lv_if_eq hE.1 hE.2.1 hd t1 (fun c => by rw [if_pos (by rw [gCd_eq]; exact (eq32 oa o0).mp c)] at ht; rw [← ht]; exact kk) (fun c => by rw [if_neg (by rw [gCd_eq]; exact fun q => c ((eq32 oa o0).mpr q))] at ht; rw [← ht]; exact kk)
        | ne => exact lv_if_ne hE.1 hE.2.1 hd t1 (fun c => by rw [if_pos (by rw [gCd_ne]; exact fun q => c ((eq32 oa o0).mpr q))] at ht; rw [← ht]; exact kk) (fun c => by rw [if_neg (by rw [gCd_ne]; exact fun q => q ((eq32 oa o0).mp c))] at ht; rw [← ht]; exact kk)
        | lt => exact lv_if_lt hE.1 hE.2.1 hd t1 (fun c => by rw [if_pos (by rw [gCd_lt]; exact (lt32 oa o0).mp c)] at ht; rw [← ht]; exact kk) (fun c => by rw [if_neg (by rw [gCd_lt]; exact fun q => c ((lt32 oa o0).mpr q))] at ht; rw [← ht]; exact kk)
        | ge => exact lv_if_ge hE.1 hE.2.1 hd t1 (fun c => by rw [if_pos (by rw [gCd_ge]; exact (le32 o0 oa).mp c)] at ht; rw [← ht]; exact kk) (fun c => by rw [if_neg (by rw [gCd_ge]; exact fun q => c ((le32 o0 oa).mpr q))] at ht; rw [← ht]; exact kk)
        | gt => exact lv_if_gt hE.1 hE.2.1 hd t1 (fun c => by rw [if_pos (by rw [gCd_gt]; exact (lt32 o0 oa).mp c)] at ht; rw [← ht]; exact kk) (fun c => by rw [if_neg (by rw [gCd_gt]; exact fun q => c ((lt32 o0 oa).mpr q))] at ht; rw [← ht]; exact kk)
        | le => exact lv_if_le hE.1 hE.2.1 hd t1 (fun c => by rw [if_pos (by rw [gCd_le]; exact (le32 oa o0).mp c)] at ht; rw [← ht]; exact kk) (fun c => by rw [if_neg (by rw [gCd_le]; exact fun q => c ((le32 oa o0).mpr q))] at ht; rw [← ht]; exact kk)
      split at h
      · rename_i e2
        exact key _ (by rw [if_pos e2]) (Option.some.inj h).symm
      · rename_i e2
        exact key _ (by rw [if_neg e2]) (Option.some.inj h).symm
    · cases h
  · cases h
theorem sd_ic {cd : Jvm.ClassFile.Cond} {off : Int} (hd : decode (yC Y) pc = .ok (.if_icmp cd off, 3)) (h : xIc pc cd off ls st w m = some x) : gGo l ss sm sp cA dC dI B sa Y pc ls st w m x := by
  unfold xIc at h
  split at h
  · rename_i b a st'
    split at h
    · rename_i e1
      have key : ∀ tgt : Nat, (if gCd cd a.2 b.2 = true then tgt = ((pc : Int) + off).toNat else tgt = pc + 3) → x = (tgt, ls, st', w, m) → gGo l ss sm sp cA dC dI B sa Y pc ls (b :: a :: st') w m x := by
        intro tgt ht hx
        subst hx
        refine gGo.of (fun q1 q2 _ => ⟨q1, fun u hu => q2 u (by simp [hu])⟩) (fun hi hE hA hH kk => ?_)
        have kk := kk _ hH
        have oa := okV_t0 (hi.2.1 a (by simp)) e1.2.1
        have o0 := okV_t0 (hi.2.1 b (by simp)) e1.1
        rw [List.map_cons, List.map_cons, gC_t0 e1.1, gC_t0 e1.2.1]
        have t1 : (pc : Int) + off = (((pc : Int) + off).toNat : Int) := by omega
        cases cd with
        | eq => exact lv_icmp_eq hE.1 hE.2.1 hd t1 (fun c => by rw [if_pos (by rw [gCd_eq]; exact (eq32 oa o0).mp c)] at ht; rw [← ht]; exact kk) (fun c => by rw [if_neg (by rw [gCd_eq]; exact fun q => c ((eq32 oa o0).mpr q))] at ht; rw [← ht]; exact kk)
        | ne => exact lv_icmp_ne hE.1 hE.2.1 hd t1 (fun c => by rw [if_pos (by rw [gCd_ne]; exact fun q => c ((eq32 oa o0).mpr q))] at ht; rw [← ht]; exact kk) (fun c => by rw [if_neg (by rw [gCd_ne]; exact fun q => q ((eq32 oa o0).mp c))] at ht; rw [← ht]; exact kk)
        | lt => exact lv_icmp_lt hE.1 hE.2.1 hd t1 (fun c => by rw [if_pos (by rw [gCd_lt]; exact (lt32 oa o0).mp c)] at ht; rw [← ht]; exact kk) (fun c => by rw [if_neg (by rw [gCd_lt]; exact fun q => c ((lt32 oa o0).mpr q))] at ht; rw [← ht]; exact kk)
        | ge => exact lv_icmp_ge hE.1 hE.2.1 hd t1 (fun c => by rw [if_pos (by rw [gCd_ge]; exact (le32 o0 oa).mp c)] at ht; rw [← ht]; exact kk) (fun c => by rw [if_neg (by rw [gCd_ge]; exact fun q => c ((le32 o0 oa).mpr q))] at ht; rw [← ht]; exact kk)
        | gt => exact lv_icmp_gt hE.1 hE.2.1 hd t1 (fun c => by rw [if_pos (by rw [gCd_gt]; exact (lt32 o0 oa).mp c)] at ht; rw [← ht]; exact kk) (fun c => by rw [if_neg (by rw [gCd_gt]; exact fun q => c ((lt32 o0 oa).mpr q))] at ht; rw [← ht]; exact kk)
        | le => exact lv_icmp_le hE.1 hE.2.1 hd t1 (fun c => by rw [if_pos (by rw [gCd_le]; exact (le32 oa o0).mp c)] at ht; rw [← ht]; exact kk) (fun c => by rw [if_neg (by rw [gCd_le]; exact fun q => c ((le32 oa o0).mpr q))] at ht; rw [← ht]; exact kk)
      split at h
      · rename_i e2
        exact key _ (by rw [if_pos e2]) (Option.some.inj h).symm
      · rename_i e2
        exact key _ (by rw [if_neg e2]) (Option.some.inj h).symm
    · cases h
  · cases h
theorem sd_ts {dflt lo hi : Int} {offs : Array Int} (hd : decode (yC Y) pc = .ok (.tableswitch dflt lo hi offs, len)) (h : xTs pc dflt lo hi offs ls st w m = some x) : gGo l ss sm sp cA dC dI B sa Y pc ls st w m x := by
  unfold xTs at h
  split at h
  · rename_i a st'
    split at h
    · rename_i e1
      split at h
      · rename_i e2
        split at h
        · rename_i off ho
          unfold xJmp at h
          split at h
          · rename_i h0
            cases h
            refine gGo.of (fun q1 q2 _ => ⟨q1, fun u hu => q2 u (by simp [hu])⟩) (fun hi hE hA hH kk => ?_)
            have oa := okV_t0 (hi.2.1 a (by simp)) e1
            rw [List.map_cons, gC_t0 e1]
            exact lv_tableIn hE.1 hE.2.1 hd (by rw [to32 oa]; omega) (by rw [to32 oa]; omega) (by rw [to32 oa]; exact ho) (by omega) (kk _ hH)
          · cases h
        · cases h
      · rename_i e2
        unfold xJmp at h
        split at h
        · rename_i h0
          cases h
          refine gGo.of (fun q1 q2 _ => ⟨q1, fun u hu => q2 u (by simp [hu])⟩) (fun hi hE hA hH kk => ?_)
          have oa := okV_t0 (hi.2.1 a (by simp)) e1
          rw [List.map_cons, gC_t0 e1]
          exact lv_tableOut hE.1 hE.2.1 hd (by rw [to32 oa]; omega) (by omega) (kk _ hH)
        · cases h
    · cases h
  · cases h
theorem sd_lk {dflt : Int} {ps : Array (Int × Int)} (hd : decode (yC Y) pc = .ok (.lookupswitch dflt ps, len)) (h : xLk pc dflt ps ls st w m = some x) : gGo l ss sm sp cA dC dI B sa Y pc ls st w m x := by
  unfold xLk at h
  split at h
  · rename_i a st'
    split at h
    · rename_i e1
      unfold xJmp at h
      split at h
      · rename_i h0
        cases h
        refine gGo.of (fun q1 q2 _ => ⟨q1, fun u hu => q2 u (by simp [hu])⟩) (fun hi hE hA hH kk => ?_)
        have oa := okV_t0 (hi.2.1 a (by simp)) e1.1
        rw [List.map_cons, gC_t0 e1.1]
        exact lv_lookup hE.1 hE.2.1 hd e1.2 (by rw [to32 oa]) (by omega) (kk _ hH)
      · cases h
    · cases h
  · cases h
end SND2
