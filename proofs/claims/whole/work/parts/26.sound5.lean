/-! SOUND, fifth part: methods of the JDK, and the end: a run of the plain machine is a run of the machine. -/
section SND5
variable {l : Launch} {ss : Int → Nat × Nat} {sm sp : Int → Int → Int} {cA dC : Nat → ClassId} {dI : Nat → Nat → Nat} {B : Nat} {sa : Nat → Nat} {Y : gY} {pc len : Nat} {ls st : List gV} {w : gW} {m : gM} {x : gX}
theorem tI_sp {o i k : Nat} (h : tI o i = some k) : 11 ≤ k ∧ k ≤ 19 ∧ Cond.methodLink (gCn o) i (gIn k) ∈ gAW := by
  obtain ⟨p, hp⟩ := tI_ck h
  unfold ckI at hp
  split at hp
  · simp only [Bool.and_eq_true, decide_eq_true_eq] at hp
    exact ⟨hp.1.1, hp.1.2, ckT_ok hp.2⟩
  · cases hp
theorem gCs_sum (st : List gV) : ((st.map (gC B sa)).map fun v => v.category).sum = gCs st := gC_sum st
theorem mmx {a b : Int} (ha : okI a) (hb : okI b) : (if Int32.ofInt a < Int32.ofInt b then Int32.ofInt b else Int32.ofInt a) = Int32.ofInt (imax a b) := by
  unfold imax
  by_cases c : a < b
  · rw [if_pos c, if_pos ((lt32 ha hb).mpr c)]
  · rw [if_neg c, if_neg (fun q => c ((lt32 ha hb).mp q))]
theorem mmn {a b : Int} (ha : okI a) (hb : okI b) : (if Int32.ofInt b < Int32.ofInt a then Int32.ofInt b else Int32.ofInt a) = Int32.ofInt (imin a b) := by
  unfold imin
  by_cases c : b < a
  · rw [if_pos c, if_pos ((lt32 hb ha).mpr c)]
  · rw [if_neg c, if_neg (fun q => c ((lt32 hb ha).mp q))]
theorem mmxl {a b : Int} (ha : okL a) (hb : okL b) : (if Int64.ofInt b < Int64.ofInt a then Int64.ofInt a else Int64.ofInt b) = Int64.ofInt (imax a b) := by
  unfold imax
  by_cases c : b < a
  · rw [if_pos ((lt64 hb ha).mpr c), if_neg (by omega)]
  · rw [if_neg (fun q => c ((lt64 hb ha).mp q))]
    by_cases c2 : a < b
    · rw [if_pos c2]
    · rw [if_neg c2, show b = a by omega]
theorem mmnl {a b : Int} (ha : okL a) (hb : okL b) : (if Int64.ofInt b < Int64.ofInt a then Int64.ofInt b else Int64.ofInt a) = Int64.ofInt (imin a b) := by
  unfold imin
  by_cases c : b < a
  · rw [if_pos c, if_pos ((lt64 hb ha).mpr c)]
  · rw [if_neg c, if_neg (fun q => c ((lt64 hb ha).mp q))]
theorem le64 {a b : Int} (ha : okL a) (hb : okL b) : Int64.ofInt a ≤ Int64.ofInt b ↔ a ≤ b := by rw [Int64.le_iff_toInt_le, to64 ha, to64 hb]
theorem mab {a : Int} (ha : okI a) : (if 0 ≤ Int32.ofInt a then Int32.ofInt a else 0 - Int32.ofInt a) = Int32.ofInt (iabs a) := by
  unfold iabs
  have z0 : (0 : Int32) = Int32.ofInt 0 := rfl
  by_cases c : 0 ≤ a
  · rw [if_pos c, if_pos (by rw [z0]; exact (le32 ⟨by decide, by decide⟩ ha).mpr c)]
  · rw [if_neg c, if_neg (fun q => c ((le32 ⟨by decide, by decide⟩ ha).mp (by rw [← z0]; exact q))), isub, of32]
    rfl
theorem okI_max {a b : Int} (ha : okI a) (hb : okI b) : okI (imax a b) := by unfold imax; split <;> assumption
theorem okI_min {a b : Int} (ha : okI a) (hb : okI b) : okI (imin a b) := by unfold imin; split <;> assumption
theorem okL_max {a b : Int} (ha : okL a) (hb : okL b) : okL (imax a b) := by unfold imax; split <;> assumption
theorem okL_min {a b : Int} (ha : okL a) (hb : okL b) : okL (imin a b) := by unfold imin; split <;> assumption
theorem okI_abs {a : Int} (ha : okI a) : okI (iabs a) := by unfold iabs; split; exact ha; exact okI32 _
theorem okL_abs {a : Int} (ha : okL a) : okL (labs a) := by unfold labs; split; exact ha; exact okL64 _
theorem okI_sgn (a : Int) : okI (gSgn a) := by
  unfold gSgn
  split
  · exact ⟨by decide, by decide⟩
  · split <;> exact ⟨by decide, by decide⟩
theorem sd_b8 {t u : Nat} {f : Int → Int → Int} (h : xB8 pc t u f ls st w m = some x) (hok : ∀ a b : gV, okV a → okV b → a.1 = t → b.1 = t → okV (u, f a.2 b.2))
    (hr : ∀ {p : Program} {e : Env} {R : Room} {s : State} {mm : MethodId} {args : Array Value} {below : List Frame} {meth : Method} {c : Code} {H : Heap} {locs : List Loc} {cells slots : Nat} {arr : Array Slot} {Q : State → Prop} {a b : gV} {rest : List Value}, gEnv ss sm sp cA dC dI B sa Y p R s mm args meth c → arr.size = yL Y → cells ≤ R.cells → slots ≤ R.slots → (rest.map fun v => v.category).sum ≤ 8 → okV a → okV b → a.1 = t → b.1 = t →
      W p l e R s mm args below meth c H locs cells slots Q (F0 mm (pc + 3) arr (gC B sa (u, f a.2 b.2) :: rest)) → W p l e R s mm args below meth c H locs cells slots Q (F0 mm pc arr (gC B sa b :: gC B sa a :: rest))) :
    gGo l ss sm sp cA dC dI B sa Y pc ls st w m x := by
  unfold xB8 at h
  split at h
  · rename_i b a st'
    split at h
    · rename_i e1
      cases h
      refine gGo.of (fun q1 q2 _ => ⟨q1, fun v hv => ?_⟩) ?_
      · rcases List.mem_cons.mp hv with rfl | hv
        · exact hok a b (q2 a (by simp)) (q2 b (by simp)) e1.2.1 e1.1
        · exact q2 v (by simp [hv])
      · intro p e R s mm args below meth c H locs cells slots arr Q hi hE hA hH kk
        exact hr hE (gH_size hH) hA.2.2.2.1 hA.2.2.2.2 (by rw [gCs_sum]; exact e1.2.2) (hi.2.1 a (by simp)) (hi.2.1 b (by simp)) e1.2.1 e1.1 (kk arr hH)
    · cases h
  · cases h
theorem sd_u8 {t u : Nat} {f : Int → Int} (h : xU8 pc t u f ls st w m = some x) (hok : ∀ a : gV, okV a → a.1 = t → okV (u, f a.2))
    (hr : ∀ {p : Program} {e : Env} {R : Room} {s : State} {mm : MethodId} {args : Array Value} {below : List Frame} {meth : Method} {c : Code} {H : Heap} {locs : List Loc} {cells slots : Nat} {arr : Array Slot} {Q : State → Prop} {a : gV} {rest : List Value}, gEnv ss sm sp cA dC dI B sa Y p R s mm args meth c → va_S (gAA B) s.heap H locs → arr.size = yL Y → cells ≤ R.cells → slots ≤ R.slots → (rest.map fun v => v.category).sum ≤ 8 → okV a → a.1 = t →
      (∀ locs', va_S (gAA B) s.heap H locs' → W p l e R s mm args below meth c H locs' cells slots Q (F0 mm (pc + 3) arr (gC B sa (u, f a.2) :: rest))) → W p l e R s mm args below meth c H locs cells slots Q (F0 mm pc arr (gC B sa a :: rest))) :
    gGo l ss sm sp cA dC dI B sa Y pc ls st w m x := by
  unfold xU8 at h
  split at h
  · rename_i a st'
    split at h
    · rename_i e1
      cases h
      intro hi
      refine ⟨⟨hi.1, fun v hv => ?_, hi.2.2⟩, Nat.le_refl _, Nat.le_refl _, ?_⟩
      · rcases List.mem_cons.mp hv with rfl | hv
        · exact hok a (hi.2.1 a (by simp)) e1.1
        · exact hi.2.1 v (by simp [hv])
      · intro p e R s mm args below meth c H locs cells slots arr Q hE hA hH hc hs kk
        dsimp only at kk
        rw [Nat.sub_self, Nat.add_zero, Nat.sub_self, Nat.add_zero] at kk
        exact hr hE hA.2.2.1 (gH_size hH) hA.2.2.2.1 hA.2.2.2.2 (by rw [gCs_sum]; exact e1.2) (hi.2.1 a (by simp)) e1.1 (fun locs' hS' => kk H locs' arr ⟨hA.1, hA.2.1, hS', hA.2.2.2⟩ hH)
    · cases h
  · cases h
/-- signum -/
theorem sg_eq (a : Int64) : ((a >>> ((63 : Int32).toInt64 &&& 63)) ||| ((-a).toUInt64 >>> ((63 : Int32).toInt64.toUInt64 &&& Int64.toUInt64 63)).toInt64).toInt32 = Int32.ofInt (gSgn a.toInt) := by
  have e1 : ((63 : Int32).toInt64 &&& 63) = (63 : Int64) := by decide
  have e2 : ((63 : Int32).toInt64.toUInt64 &&& Int64.toUInt64 63) = (63 : UInt64) := by decide
  rw [e1, e2]
  have h1 : (a >>> (63 : Int64)) = if a.toInt < 0 then -1 else 0 := by
    rw [← Int64.toBitVec_inj]
    have : (a >>> (63 : Int64)).toBitVec = a.toBitVec.sshiftRight 63 := by
      rw [Int64.toBitVec_shiftRight]
      rfl
    rw [this]
    by_cases c : a.toInt < 0
    · rw [if_pos c]
      apply BitVec.eq_of_getLsbD_eq
      intro i hi
      rw [BitVec.getLsbD_sshiftRight]
      have hm : a.toBitVec.msb = true := by rw [BitVec.msb_eq_toInt]; simpa using c
      have : (-1 : Int64).toBitVec = BitVec.allOnes 64 := rfl
      rw [this, BitVec.getLsbD_allOnes]
      by_cases c2 : 63 + i < 64
      · have : i = 0 := by omega
        subst this
        simp [BitVec.getLsbD_eq_getElem, BitVec.msb_eq_getLsbD_last] at hm ⊢
        simpa [BitVec.getLsbD_eq_getElem] using hm
      · simp [c2, hm, hi]
    · rw [if_neg c]
      apply BitVec.eq_of_getLsbD_eq
      intro i hi
      rw [BitVec.getLsbD_sshiftRight]
      have hm : a.toBitVec.msb = false := by rw [BitVec.msb_eq_toInt]; simpa using c
      by_cases c2 : 63 + i < 64
      · have : i = 0 := by omega
        subst this
        simp [BitVec.getLsbD_eq_getElem, BitVec.msb_eq_getLsbD_last] at hm ⊢
        simpa [BitVec.getLsbD_eq_getElem] using hm
      · simp [c2, hm]
  have h2 : ((-a).toUInt64 >>> (63 : UInt64)).toInt64 = if (-a).toInt < 0 then 1 else 0 := by
    rw [← Int64.toBitVec_inj]
    have : ((-a).toUInt64 >>> (63 : UInt64)).toInt64.toBitVec = (-a).toBitVec >>> 63 := by
      show ((-a).toUInt64 >>> (63 : UInt64)).toBitVec = _
      rw [UInt64.toBitVec_shiftRight]
      rfl
    rw [this]
    by_cases c : (-a).toInt < 0
    · rw [if_pos c]
      have hm : (-a).toBitVec.msb = true := by rw [BitVec.msb_eq_toInt]; exact decide_eq_true (show (-a).toBitVec.toInt < 0 from c)
      apply BitVec.eq_of_getLsbD_eq
      intro i hi
      rw [BitVec.getLsbD_ushiftRight]
      by_cases c2 : i = 0
      · subst c2
        rw [BitVec.msb_eq_getLsbD_last] at hm
        simpa using hm
      · rw [BitVec.getLsbD_of_ge _ _ (by omega)]
        have : (1 : Int64).toBitVec = 1#64 := rfl
        rw [this, BitVec.getLsbD_one]
        simp [c2]
    · rw [if_neg c]
      have hm : (-a).toBitVec.msb = false := by rw [BitVec.msb_eq_toInt]; exact decide_eq_false (show ¬ (-a).toBitVec.toInt < 0 from c)
      apply BitVec.eq_of_getLsbD_eq
      intro i hi
      rw [BitVec.getLsbD_ushiftRight]
      by_cases c2 : i = 0
      · subst c2
        rw [BitVec.msb_eq_getLsbD_last] at hm
        simpa using hm
      · rw [BitVec.getLsbD_of_ge _ _ (by omega)]
        simp
  rw [h1, h2]
  unfold gSgn
  have hmin := a.le_toInt
  have hmax := a.toInt_lt
  by_cases c : 0 < a.toInt
  · have n1 : ¬ a.toInt < 0 := by omega
    have n2 : (-a).toInt < 0 := by
      rw [Int64.toInt_neg]
      have : (-a.toInt).bmod (2 ^ 64) = -a.toInt := Int.bmod_eq_of_le (by omega) (by omega)
      rw [this]; omega
    rw [if_neg n1, if_pos n2, if_pos c]
    rfl
  · by_cases c0 : a.toInt = 0
    · have ea : a = 0 := by rw [← Int64.toInt_inj]; exact c0
      subst ea
      rfl
    · have n1 : a.toInt < 0 := by omega
      rw [if_pos n1, if_neg c, if_neg c0]
      split <;> rfl

theorem mabl {a : Int} (ha : okL a) : (if 0 < Int64.ofInt a then Int64.ofInt a else -Int64.ofInt a) = Int64.ofInt (labs a) := by
  unfold labs
  have z0 : (0 : Int64) = Int64.ofInt 0 := rfl
  have o0 : okL 0 := ⟨by decide, by decide⟩
  by_cases c : 0 < a
  · rw [if_pos (by rw [z0]; exact (lt64 o0 ha).mpr c), if_pos (by omega)]
  · rw [if_neg (fun q => c ((lt64 o0 ha).mp (by rw [← z0]; exact q)))]
    by_cases c2 : 0 ≤ a
    · have : a = 0 := by omega
      subst this
      rfl
    · rw [if_neg c2, lneg, of64]
/-- signum's contract -/
theorem c_signum (l : Launch) (a : Int64) : Met l yJ13_signum_95d88 [Cond.code yJ13_signum_95d88 cJ13_signum_95d88 2 (some .int)] { frames := 0, cells := 0, slots := 0, locals := 0 } (va_Pc [.long a] (fun _ => True)) (fun _ st o t => o = .returned (some (.int (Int32.ofInt (gSgn a.toInt)))) ∧ t.heap = st.heap) 0 0 (fun _ => False) := by
  refine Met.ofW (cc := cJ13_signum_95d88) (maxL := 2) (ret := some .int) (by decide +kernel) rfl ?_
  intro p e s m args below meth c s₁ Bd hml hv
  obtain ⟨rfl, -⟩ := hv
  have hx := Bd.exec
  have hb := Bd.bytes
  have hr := Bd.returns
  have hlocks := Bd.notSynchronized
  have hl := lv_entry ([.long a]) (n := 2) (Nat.le_of_ble_eq_true rfl)
  rw [lg_entry_eq]
  generalize (lg_sl ([.long a]) ++ List.replicate (2 - (lg_sl ([.long a])).length) Slot.unset).toArray = ls at hl ⊢
  have hl : lv_has ls 2 [(0, .long a)] := hl
  have d0 : decode cJ13_signum_95d88 0 = .ok (.lload_n 0, 1) := by decide +kernel
  have d1 : decode cJ13_signum_95d88 1 = .ok (.bipush 63, 2) := by decide +kernel
  have d3 : decode cJ13_signum_95d88 3 = .ok (.lshr, 1) := by decide +kernel
  have d4 : decode cJ13_signum_95d88 4 = .ok (.lload_n 0, 1) := by decide +kernel
  have d5 : decode cJ13_signum_95d88 5 = .ok (.lneg, 1) := by decide +kernel
  have d6 : decode cJ13_signum_95d88 6 = .ok (.bipush 63, 2) := by decide +kernel
  have d8 : decode cJ13_signum_95d88 8 = .ok (.lushr, 1) := by decide +kernel
  have d9 : decode cJ13_signum_95d88 9 = .ok (.lor, 1) := by decide +kernel
  have d10 : decode cJ13_signum_95d88 10 = .ok (.l2i, 1) := by decide +kernel
  have d11 : decode cJ13_signum_95d88 11 = .ok (.ireturn, 1) := by decide +kernel
  refine lv_lload_n hx hb d0 rfl (lv_at hl 0 rfl) ?_
  refine lv_bipush hx hb d1 (v := 63) (by decide) ?_
  refine lv_lshr hx hb d3 rfl ?_
  refine lv_lload_n hx hb d4 rfl (lv_at hl 0 rfl) ?_
  refine lv_lneg hx hb d5 ?_
  refine lv_bipush hx hb d6 (v := 63) (by decide) ?_
  refine lv_lushr hx hb d8 rfl ?_
  refine lv_lor hx hb d9 ?_
  refine lv_l2i hx hb d10 rfl ?_
  exact W.iret hx hb hr (fun t ht hW => ⟨by rw [sg_eq], ht⟩) (fun q h => by cases h) d11
theorem sd_ob {idx : Nat} (hd : decode (yC Y) pc = .ok (.invokespecial idx, len)) (hl3 : len = 3) (h : xOb Y pc idx ls st w m = some x) : gGo l ss sm sp cA dC dI B sa Y pc ls st w m x := by
  subst hl3
  unfold xOb at h
  split at h
  · rename_i a st'
    split at h
    · rename_i k hk
      split at h
      · rename_i e1
        obtain ⟨rfl, e2, e3, e4⟩ := e1
        cases h
        obtain ⟨-, -, hlink⟩ := tI_sp hk
        refine gGo.of (fun q1 q2 _ => ⟨q1, fun u hu => q2 u (by simp [hu])⟩) (fun {p e R s mm args below meth c H locs cells slots arr Q} hi hE hA hH kk => ?_)
        obtain ⟨ta, z⟩ := a
        dsimp only at e2 e3
        subst e2
        rw [List.map_cons, gC_r e3]
        have hts := hE.2.2.2.2.1
        have hc := gCs_sum (B := B) (sa := sa) st'
        have hloc := hE.2.2.2.2.2.2.2.2.2.2.2.2
        refine W.objInit hE.1 hE.2.1 hE.2.2.2.1 (hts _ hlink) (hts _ iw_19.1) (hts _ iw_19.2) rfl ?_ rfl hd hE.2.2.2.2.2.2.2.2.2.2.2.1 ?_ (kk _ hH)
        · show arr.size = c.maxLocals
          rw [gH_size hH, hE.2.2.1]
        · show 2 * 0 + _ + 12 ≤ _
          omega
      · cases h
    · cases h
  · cases h
/-- System.arraycopy between cells -/
theorem sd_cp {idx : Nat} (hd : decode (yC Y) pc = .ok (.invokestatic idx, 3)) (hI : tI (yO Y) idx = some 17) (h : xCp pc ls st w m = some x) : gGo l ss sm sp cA dC dI B sa Y pc ls st w m x := by
  unfold xCp at h
  split at h
  · rename_i n j b i a st'
    split at h
    · rename_i e1
      obtain ⟨tn, zn⟩ := n
      obtain ⟨tj, zj⟩ := j
      obtain ⟨tb, zb⟩ := b
      obtain ⟨ti, zi⟩ := i
      obtain ⟨ta, za⟩ := a
      dsimp only at e1 h
      obtain ⟨rfl, rfl, rfl, rfl, rfl, a0, b0, hk, hkb, i0, j0, n0, h1, h2, hcs⟩ := e1
      cases h
      obtain ⟨-, -, hlink⟩ := tI_sp hI
      intro hi
      have on := okV_t0 (hi.2.1 (0, zn) (by simp)) rfl
      have oj := okV_t0 (hi.2.1 (0, zj) (by simp)) rfl
      have oi := okV_t0 (hi.2.1 (0, zi) (by simp)) rfl
      have la : za < w.1 := by
        rcases gOk_lt hi.2.2 (a := za) (by omega) with q | q <;> omega
      have lb : zb < w.1 := by
        rcases gOk_lt hi.2.2 (a := zb) (by omega) with q | q <;> omega
      have ka : za.toNat < w.1 := by omega
      have kb : zb.toNat < w.1 := by omega
      have ea := toNat_i a0
      have eb := toNat_i b0
      refine ⟨⟨hi.1, fun u hu => hi.2.1 u (by simp [hu]), ?_⟩, Nat.le_refl _, Nat.le_refl _, ?_⟩
      · dsimp only
        refine ⟨fun k' hk' => ⟨(hi.2.2.1 k' hk').1, fun q => ?_, (hi.2.2.1 k' hk').2.2⟩, hi.2.2.2.1, fun q hq => ⟨(hi.2.2.2.2.1 q hq).1, fun q' => ?_, (hi.2.2.2.2.1 q hq).2.2⟩, hi.2.2.2.2.2⟩
        · unfold gCp
          by_cases c : (k' : Int) = zb ∧ zj ≤ (q : Int) ∧ (q : Int) < zj + zn
          · rw [if_pos c]
            have := (hi.2.2.1 za.toNat ka).2.1 (zi + ((q : Int) - zj)).toNat
            rw [ea, toNat_i (by omega)] at this
            rw [c.1, hkb]
            rw [if_neg (by omega)] at this ⊢
            exact this
          · rw [if_neg c]; exact (hi.2.2.1 k' hk').2.1 q
        · unfold gCp
          rw [if_neg (by omega)]
          exact (hi.2.2.2.2.1 q hq).2.1 q'
      · intro p e R s mm args below meth c H locs cells slots arr Q hE hA hH hc hs kk
        dsimp only at kk
        rw [Nat.sub_self, Nat.add_zero, Nat.sub_self, Nat.add_zero] at kk
        rw [List.map_cons, List.map_cons, List.map_cons, List.map_cons, List.map_cons, gC_r a0, gC_r b0, gC_i, gC_i, gC_i]
        have hts := hE.2.2.2.2.1
        have hK := hE.2.2.2.2.2.2.2.2.1
        have hcs2 := gCs_sum (B := B) (sa := sa) st'
        have hloc := hE.2.2.2.2.2.2.2.2.2.2.2.2
        have nn : ¬ Int32.ofInt zn < 0 := fun q => by
          have := (lt32 on ⟨by decide, by decide⟩).mp (show Int32.ofInt zn < Int32.ofInt 0 from q)
          omega
        have nj : ¬ Int32.ofInt zj < 0 := fun q => by
          have := (lt32 oj ⟨by decide, by decide⟩).mp (show Int32.ofInt zj < Int32.ofInt 0 from q)
          omega
        have ni : ¬ Int32.ofInt zi < 0 := fun q => by
          have := (lt32 oi ⟨by decide, by decide⟩).mp (show Int32.ofInt zi < Int32.ofInt 0 from q)
          omega
        -- for both kinds of rows
        have main : ∀ (kd t0 : Nat) (ty : FieldType) (mk : (Nat → Int) → Nat → Value), (wS w (za.toNat : Int)).1 = kd → (wS w (zb.toNat : Int)).1 = kd → (kd = 100 ∨ kd = 101) → (gTys cA)[t0]? = some (cA kd, ty) → refKind ty = false →
            (∀ (row : Int → Int) (n : Nat), vp_cell (cA kd) (n, gArr B kd row) = arrV (cA kd) n (mk (fun j => row j))) → (∀ f j, fits ty (mk f j) = true) → (∃ g : Int → Value, ∀ f j, mk f j = g (f j) ∧ (∀ U : State, ∀ c, U.takes c (mk f j))) →
            W p l e R s mm args below meth c H locs cells slots Q (F0 mm pc arr (.int (Int32.ofInt zn) :: .int (Int32.ofInt zj) :: .ref (B + zb.toNat) :: .int (Int32.ofInt zi) :: .ref (B + za.toNat) :: st'.map (gC B sa))) := by
          intro kd t0 ty mk hka hkb2 hkd ht hprim hmk hfit hg
          obtain ⟨g, hg⟩ := hg
          have hc0 := hA.1 za.toNat _ (gE_of (cA := cA) (B := B) (sa := sa) (n := 0) ka (gE_k (m := m) hka (by omega)))
          have hc1 := hA.1 zb.toNat _ (gE_of (cA := cA) (B := B) (sa := sa) (n := 0) kb (gE_k (m := m) hkb2 (by omega)))
          have hc0 : H[B + za.toNat]? = some (vp_cell (cA kd) ((wS w (za.toNat : Int)).2, gArr B kd (m (za.toNat : Int)))) := hc0
          have hc1 : H[B + zb.toNat]? = some (vp_cell (cA kd) ((wS w (zb.toNat : Int)).2, gArr B kd (m (zb.toNat : Int)))) := hc1
          rw [hmk] at hc0 hc1
          obtain ⟨-, k0, hk0, cm0, hkk0⟩ := (hK.2 t0 _ ht).1 0 (fun _ => .null)
          intro T hT X
          obtain ⟨vm', X', step⟩ := X.arraycopy hE.1 hE.2.2.2.1 (hts _ hlink) (hts _ iw_17.1) (hts _ iw_17.2.1) (hts _ iw_17.2.2) (cs := arrV (cA kd) (wS w (za.toNat : Int)).2 (mk fun j => m (za.toNat : Int) j)) (cd := arrV (cA kd) (wS w (zb.toNat : Int)).2 (mk fun j => m (zb.toNat : Int) j)) (src := B + za.toNat) (dst := B + zb.toNat) (srcPos := Int32.ofInt zi) (destPos := Int32.ofInt zj) (n := Int32.ofInt zn) (by rw [hT]; exact hc0) (by rw [hT]; exact hc1)
            (fun _ h => by cases h) (fun _ h => by cases h) (fun h => by cases h) (fun h => by cases h) hk0 hk0 hkk0 hkk0 (by simp [hprim]) ni nj nn
            (by rw [to32 oi, to32 on, arrV_size]; rw [ea]; omega)
            (by rw [to32 oj, to32 on, arrV_size]; rw [eb]; omega)
            (fun vm₁ _ q hq => by
              rw [ix32 on] at hq
              have e3 : (arrV (cA kd) (wS w (za.toNat : Int)).2 (mk fun j => m (za.toNat : Int) j)).slots.getD ((Int32.ofInt zi).toNatClampNeg + q) .null = mk (fun j => m (za.toNat : Int) j) ((Int32.ofInt zi).toNatClampNeg + q) := by
                rw [Array.getD_eq_getD_getElem?, arrV_read _ _ (by rw [ix32 oi, ea]; omega)]
                rfl
              rw [e3]
              exact ⟨hfit _ _, (hg _ _).2 _ _⟩)
            (g := F0 mm pc arr (.int (Int32.ofInt zn) :: .int (Int32.ofInt zj) :: .ref (B + zb.toNat) :: .int (Int32.ofInt zi) :: .ref (B + za.toNat) :: st'.map (gC B sa))) rfl (by show arr.size = _; rw [gH_size hH, hE.2.2.1]) (rest := st'.map (gC B sa)) rfl (by rw [hE.2.1]; exact hd) hE.2.2.2.2.2.2.2.2.2.2.2.1 (by
              have e9 : nativeFrameWords "java/lang/System" "arraycopy" 5 ≤ 60 := by decide +kernel
              show 2 * 0 + _ + _ ≤ _; omega)
          have ecp : copied (arrV (cA kd) (wS w (za.toNat : Int)).2 (mk fun j => m (za.toNat : Int) j)) (arrV (cA kd) (wS w (zb.toNat : Int)).2 (mk fun j => m (zb.toNat : Int) j)) (Int32.ofInt zi) (Int32.ofInt zj) (Int32.ofInt zn) = arrV (cA kd) (wS w (zb.toNat : Int)).2 (mk fun j => gCp m za zi zb zj zn zb j) := by
            have e8 : ∀ (f : Nat → Int), mk f = fun j => g (f j) := fun f => funext fun j => (hg f j).1
            have h9 := va_copied g (cA kd) (cA kd) (n0 := (wS w (za.toNat : Int)).2) (n1 := (wS w (zb.toNat : Int)).2) (sp := zi.toNat) (dp := zj.toNat) (n := zn.toNat) (fun j => m (za.toNat : Int) j) (fun j => m (zb.toNat : Int) j) (by rw [ea]; omega)
            rw [e8, e8, e8]
            show (arrV (cA kd) (wS w (zb.toNat : Int)).2 fun j => g (m (zb.toNat : Int) j)).storeRun _ ((arrV (cA kd) (wS w (za.toNat : Int)).2 fun j => g (m (za.toNat : Int) j)).stretch _ _) = _
            rw [ix32 oi, ix32 oj, ix32 on, h9]
            congr 1
            funext j
            unfold va_cpy gCp
            by_cases c : zj.toNat ≤ j ∧ j < zj.toNat + zn.toNat
            · have e10 : ((zi.toNat + (j - zj.toNat) : Nat) : Int) = zi + ((j : Int) - zj) := by omega
              rw [if_pos c, if_pos ⟨rfl, by omega, by omega⟩, ea]
              show g (m za ((zi.toNat + (j - zj.toNat) : Nat) : Int)) = _
              rw [e10]
            · rw [if_neg c, if_neg (by omega), eb]
          rw [ecp] at X' step
          have hl : B + zb.toNat < H.size := (Array.getElem?_eq_some_iff.mp hc1).1
          have hheap : ((T.setVm vm').setCell (B + zb.toNat) (arrV (cA kd) (wS w (zb.toNat : Int)).2 (mk fun j => gCp m za zi zb zj zn zb j))).heap = H.setIfInBounds (B + zb.toNat) (arrV (cA kd) (wS w (zb.toNat : Int)).2 (mk fun j => gCp m za zi zb zj zn zb j)) := by rw [← hT]; rfl
          have oq : ∀ q : Nat, q ≠ B + zb.toNat → (H.setIfInBounds (B + zb.toNat) (arrV (cA kd) (wS w (zb.toNat : Int)).2 (mk fun j => gCp m za zi zb zj zn zb j)))[q]? = H[q]? := fun q hq => by simp [Array.getElem?_setIfInBounds, Ne.symm hq]
          have hcell := gE_of (cA := cA) (B := B) (sa := sa) (n := 0) kb (gE_k (m := m) hkb2 (by omega))
          have hA' : ∀ locs', (∀ q ∈ locs', gAA B q.base) → gAt cA dC dI B sa R s w (gCp m za zi zb zj zn) (H.setIfInBounds (B + zb.toNat) (arrV (cA kd) (wS w (zb.toNat : Int)).2 (mk fun j => gCp m za zi zb zj zn zb j))) locs' cells slots := by
            intro locs' hl'
            refine ⟨?_, by rw [Array.size_setIfInBounds]; exact hA.2.1, ⟨by rw [Array.size_setIfInBounds]; exact hA.2.2.1.1, fun q g1 g2 => ?_, hl'⟩, hA.2.2.2⟩
            · rw [← gWd_set (cA := cA) (B := B) (sa := sa) (m := m) (m' := gCp m za zi zb zj zn) kb rfl (fun j _ hne => gE_row rfl (fun j' => by unfold gCp; rw [if_neg (by omega)]) (fun _ => rfl))]
              refine hA.1.set gWd_D hcell ?_ oq
              rw [gE_k (m := gCp m za zi zb zj zn) hkb2 (by omega)]
              show (H.setIfInBounds (B + zb.toNat) _)[B + zb.toNat]? = some (vp_cell _ _)
              rw [hmk, eb]
              simp [Array.getElem?_setIfInBounds, hl]
            · rw [oq q (fun e => g2 (by rw [e]; exact Nat.le_add_right _ _))]
              exact hA.2.2.1.2.1 q g1 g2
          obtain ⟨t, a1, b1⟩ := kk _ _ arr (hA' _ (fun q hq => by
            rcases List.mem_append.mp hq with h | h
            · exact hA.2.2.1.2.2 q h
            · obtain ⟨z, -, hz⟩ := List.mem_map.mp h
              rw [← hz]
              exact Nat.le_add_right _ _)) hH _ hheap X'
          exact ⟨t, step t a1, b1⟩
        rcases hk with hk | hk
        · exact main 100 0 .int (fun f j => .int (Int32.ofInt (f j))) (by rw [ea]; exact hk) (by rw [eb, hkb]; exact hk) (Or.inl rfl) rfl rfl (fun row n => by rw [gArr_i 100 _ (Or.inl rfl)]; rfl) (fun _ _ => rfl) ⟨fun z => .int (Int32.ofInt z), fun _ _ => ⟨rfl, fun _ _ => trivial⟩⟩
        · exact main 101 1 .long (fun f j => .long (Int64.ofInt (f j))) (by rw [ea]; exact hk) (by rw [eb, hkb]; exact hk) (Or.inr rfl) rfl rfl (fun row n => by rw [gArr_l]; rfl) (fun _ _ => rfl) ⟨fun z => .long (Int64.ofInt z), fun _ _ => ⟨rfl, fun _ _ => trivial⟩⟩
    · cases h
  · cases h
theorem sd_st9 {idx : Nat} (hd : decode (yC Y) pc = .ok (.invokestatic idx, len)) (hl3 : len = 3) (h : xSt9 Y pc idx ls st w m = some x) : gGo l ss sm sp cA dC dI B sa Y pc ls st w m x := by
  subst hl3
  unfold xSt9 at h
  split at h
  · rename_i hI
    obtain ⟨-, -, hlink⟩ := tI_sp hI
    refine sd_b8 h (fun a b oa ob ha hb => okV0 (okI_max (okV_t0 oa ha) (okV_t0 ob hb))) (fun {p e R s mm args below meth c H locs cells slots arr Q a b rest} hE hz hc hs hr oa ob ha hb kk => ?_)
    have hts := hE.2.2.2.2.1
    rw [gC_t0 ha, gC_t0 hb]
    refine va_mmax hE.1 hE.2.1 (by rw [hE.2.2.1, hz]) hE.2.2.2.1 (hts _ hlink) (hts _ iw_11.2.1) (hts _ iw_11.2.2) (hts _ iw_11.1) hE.2.2.2.2.2.2.2.2.2.2.2.1 (by have := hE.2.2.2.2.2.2.2.2.2.2.2.2; omega) hc hs hd ?_
    rw [mmx (okV_t0 oa ha) (okV_t0 ob hb)]
    exact kk
  · rename_i hI
    obtain ⟨-, -, hlink⟩ := tI_sp hI
    refine sd_b8 h (fun a b oa ob ha hb => okV0 (okI_min (okV_t0 oa ha) (okV_t0 ob hb))) (fun {p e R s mm args below meth c H locs cells slots arr Q a b rest} hE hz hc hs hr oa ob ha hb kk => ?_)
    have hts := hE.2.2.2.2.1
    rw [gC_t0 ha, gC_t0 hb]
    refine va_mmin hE.1 hE.2.1 (by rw [hE.2.2.1, hz]) hE.2.2.2.1 (hts _ hlink) (hts _ iw_12.2.1) (hts _ iw_12.2.2) (hts _ iw_12.1) hE.2.2.2.2.2.2.2.2.2.2.2.1 (by have := hE.2.2.2.2.2.2.2.2.2.2.2.2; omega) hc hs hd ?_
    rw [mmn (okV_t0 oa ha) (okV_t0 ob hb)]
    exact kk
  · rename_i hI
    obtain ⟨-, -, hlink⟩ := tI_sp hI
    refine sd_u8 h (fun a oa ha => okV0 (okI_abs (okV_t0 oa ha))) (fun {p e R s mm args below meth c H locs cells slots arr Q a rest} hE hS hz hc hs hr oa ha kk => ?_)
    have hts := hE.2.2.2.2.1
    rw [gC_t0 ha]
    refine va_mabs hE.1 hE.2.1 (by rw [hE.2.2.1, hz]) hE.2.2.2.1 (hts _ hlink) (hts _ iw_13.2.1) (hts _ iw_13.2.2) (hts _ iw_13.1) hE.2.2.2.2.2.2.2.2.2.2.2.1 (by have := hE.2.2.2.2.2.2.2.2.2.2.2.2; omega) hc hs hd ?_
    rw [mab (okV_t0 oa ha)]
    exact kk _ hS
  · rename_i hI
    obtain ⟨-, -, hlink⟩ := tI_sp hI
    refine sd_b8 h (fun a b oa ob ha hb => okV1 (okL_max (okV_t1 oa ha) (okV_t1 ob hb))) (fun {p e R s mm args below meth c H locs cells slots arr Q a b rest} hE hz hc hs hr oa ob ha hb kk => ?_)
    have hts := hE.2.2.2.2.1
    rw [gC_t1 ha, gC_t1 hb]
    refine va_mmax_long hE.1 hE.2.1 (by rw [hE.2.2.1, hz]) hE.2.2.2.1 (hts _ hlink) (hts _ iw_14.2.1) (hts _ iw_14.2.2) (hts _ iw_14.1) hE.2.2.2.2.2.2.2.2.2.2.2.1 (by have := hE.2.2.2.2.2.2.2.2.2.2.2.2; omega) hc hs hd ?_
    rw [mmxl (okV_t1 oa ha) (okV_t1 ob hb)]
    exact kk
  · rename_i hI
    obtain ⟨-, -, hlink⟩ := tI_sp hI
    refine sd_b8 h (fun a b oa ob ha hb => okV1 (okL_min (okV_t1 oa ha) (okV_t1 ob hb))) (fun {p e R s mm args below meth c H locs cells slots arr Q a b rest} hE hz hc hs hr oa ob ha hb kk => ?_)
    have hts := hE.2.2.2.2.1
    rw [gC_t1 ha, gC_t1 hb]
    refine va_mmin_long hE.1 hE.2.1 (by rw [hE.2.2.1, hz]) hE.2.2.2.1 (hts _ hlink) (hts _ iw_15.2.1) (hts _ iw_15.2.2) (hts _ iw_15.1) hE.2.2.2.2.2.2.2.2.2.2.2.1 (by have := hE.2.2.2.2.2.2.2.2.2.2.2.2; omega) hc hs hd ?_
    rw [mmnl (okV_t1 oa ha) (okV_t1 ob hb)]
    exact kk
  · rename_i hI
    obtain ⟨-, -, hlink⟩ := tI_sp hI
    refine sd_u8 h (fun a oa ha => okV1 (okL_abs (okV_t1 oa ha))) (fun {p e R s mm args below meth c H locs cells slots arr Q a rest} hE hS hz hc hs hr oa ha kk => ?_)
    have hts := hE.2.2.2.2.1
    rw [gC_t1 ha]
    refine va_mabs_long hE.1 hE.2.1 (by rw [hE.2.2.1, hz]) hE.2.2.2.1 (hts _ hlink) (hts _ iw_16.2.1) (hts _ iw_16.2.2) (hts _ iw_16.1) hE.2.2.2.2.2.2.2.2.2.2.2.1 (by have := hE.2.2.2.2.2.2.2.2.2.2.2.2; omega) hc hs hd ?_
    rw [mabl (okV_t1 oa ha)]
    exact kk _ hS
  · rename_i hI
    exact sd_cp hd hI h
  · rename_i hI
    obtain ⟨-, -, hlink⟩ := tI_sp hI
    refine sd_u8 h (fun a oa ha => okV0 (okI_sgn _)) (fun {p e R s mm args below meth c H locs cells slots arr Q a rest} hE hS hz hc hs hr oa ha kk => ?_)
    have hts := hE.2.2.2.2.1
    rw [gC_t1 ha]
    have hloc := hE.2.2.2.2.2.2.2.2.2.2.2.2
    have hfr := hE.2.2.2.2.2.2.2.2.2.2.2.1
    have hcw : CallB R s args (gCn (yO Y)) idx yJ13_signum_95d88 cJ13_signum_95d88 2 (some .int) [Cond.code yJ13_signum_95d88 cJ13_signum_95d88 2 (some .int)] { frames := 0, cells := 0, slots := 0, locals := 0 } 0 0 1 ∧ (Cond.static yJ13_signum_95d88).before args s = true :=
      ⟨callB_of (Ts := gAW) (ws' := []) 1 hts (fun q hq => by
        have : q = Cond.code yJ13_signum_95d88 cJ13_signum_95d88 2 (some .int) := by simpa using hq
        subst this
        exact gAW_good _ iw_18.1) rfl rfl rfl (hts _ iw_18.2.2) (hts _ hlink) ⟨by decide +kernel, by decide +kernel, by decide +kernel⟩ ⟨by show 0 + 1 ≤ _; omega, by show 8 + (2 + 11) + 0 ≤ _; omega⟩, hts _ iw_18.2.1⟩
    have hrun := va_runS (As := [.long (Int64.ofInt a.2)]) (rest := rest) (g := F0 mm pc arr (.long (Int64.ofInt a.2) :: rest)) (cells := cells) (slots := slots) (below := below) (e := e) (H := H) (locs := locs) (meth := meth) ⟨hE.1, hE.2.1, hE.2.2.1, hE.2.2.2.1, hts⟩ (c_signum l (Int64.ofInt a.2)) hcw ⟨fun _ _ _ _ q => q, fun U hU hW => ⟨rfl, trivial⟩⟩ rfl rfl hz rfl (lv_room hr) hd ⟨by omega, by omega⟩
    intro T hT X
    obtain ⟨v, st₀, t, T', L, h0, X', hL, e1, e2, ⟨q1, q2⟩, stp⟩ := hrun T hT X
    cases q1
    rw [to64 (okV_t1 oa ha)] at stp
    obtain ⟨t2, a1, b1⟩ := kk (locs ++ L) ⟨hS.1, hS.2.1, fun q hq => by
      rcases List.mem_append.mp hq with h | h
      · exact hS.2.2 q h
      · exact (hL q h).elim⟩ T' (by rw [e1, q2, h0]) X'
    exact ⟨t2, stp t2 a1, b1⟩
  · cases h
end SND5
