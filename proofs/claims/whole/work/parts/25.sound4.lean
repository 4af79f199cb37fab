/-! SOUND, fourth part: new cells. -/
section SND4
variable {l : Launch} {ss : Int → Nat × Nat} {sm sp : Int → Int → Int} {cA dC : Nat → ClassId} {dI : Nat → Nat → Nat} {B : Nat} {sa : Nat → Nat} {Y : gY} {pc len : Nat} {ls st : List gV} {w : gW} {m : gM} {x : gX}
theorem okT_0 (ty : FieldType) : okT ty 0 := by cases ty <;> first | exact ⟨by decide, by decide⟩ | exact Or.inl rfl
theorem gOk_new (h : gOk ss sm sp w m) {kd n : Nat} (hk : kd < 9 ∨ (100 ≤ kd ∧ kd ≤ 104 ∧ n ≤ 100000)) : gOk ss sm sp (wNew w kd n) (mNew w m) := by
  have eS : ∀ a, wS (wNew w kd n) a = if a = (w.1 : Int) then (kd, n) else wS w a := fun _ => rfl
  have eP : ∀ a i, wP (wNew w kd n) a i = if a = (w.1 : Int) then -1 else wP w a i := fun _ _ => rfl
  have eM : ∀ a i, mNew w m a i = if a = (w.1 : Int) then 0 else m a i := fun _ _ => rfl
  refine ⟨fun k hk' => ?_, fun a ha => ?_, fun a ha => ?_, ?_⟩
  · have hk' : k < w.1 + 1 := hk'
    by_cases e : k = w.1
    · subst e
      refine ⟨by rw [eS, if_pos rfl]; exact hk, fun j => ?_, fun j => ?_⟩
      · rw [eM, if_pos rfl]; exact okT_0 _
      · rw [eP, if_pos rfl]; decide
    · have h1 := h.1 k (by omega)
      refine ⟨by rw [eS, if_neg (by omega)]; exact h1.1, fun j => ?_, fun j => ?_⟩
      · have e1 : mNew w m k j = m k j := by rw [eM, if_neg (by omega)]
        have e2 : wS (wNew w kd n) k = wS w k := by rw [eS, if_neg (by omega)]
        rw [e1, e2]; exact h1.2.1 j
      · rw [eP, if_neg (by omega)]; exact h1.2.2 j
  · have e1 : ((wNew w kd n).1 : Int) = (w.1 : Int) + 1 := by show ((w.1 + 1 : Nat) : Int) = _; omega
    rw [e1] at ha
    rw [eS, if_neg (by omega)]
    exact h.2.1 a (by omega)
  · have s3 := h.2.2.1 a ha
    refine ⟨by rw [eS, if_neg (by omega)]; exact s3.1, fun i => ?_, fun i => ?_⟩
    · rw [eM, if_neg (by omega)]; exact s3.2.1 i
    · rw [eP, if_neg (by omega)]; exact s3.2.2 i
  · rw [eP, if_neg (by omega)]; exact h.2.2.2
theorem g_new {R : Room} {s : State} {H H1 : Heap} {locs : List Loc} {cells slots c2 s2 : Nat} (hA : gAt cA dC dI B sa R s w m H locs cells slots) (hB : B ≤ s.heap.size) {kd n : Nat} (e : va_at (dC, dI) vwCl (B + w.1, gE cA B sa (wNew w kd n) (mNew w m) w.1) H1) (z : H1.size = H.size + 1) (o : ∀ q, q < H.size → H1[q]? = H[q]?) (hc : c2 ≤ R.cells) (hs : s2 ≤ R.slots) :
    gAt cA dC dI B sa R s (wNew w kd n) (mNew w m) H1 locs c2 s2 := by
  refine ⟨fun k q hq => ?_, ?_, ⟨by have := hA.2.2.1.1; omega, fun q h1 h2 => ?_, hA.2.2.1.2.2⟩, hc, hs⟩
  · obtain ⟨hk, rfl⟩ := gWd_of hq
    have hk : k < w.1 + 1 := hk
    by_cases e0 : k = w.1
    · subst e0; exact e
    · have h1 : k < w.1 := by omega
      have e1 : gE cA B sa (wNew w kd n) (mNew w m) k = gE cA B sa w m k := gE_row (show (if (k : Int) = (w.1 : Int) then (kd, n) else wS w k) = _ by rw [if_neg (by omega)]) (fun j => show (if (k : Int) = (w.1 : Int) then 0 else m k j) = _ by rw [if_neg (by omega)]) (fun j => show (if (k : Int) = (w.1 : Int) then -1 else wP w k j) = _ by rw [if_neg (by omega)])
      rw [e1]
      have h2 := hA.1 k _ (gWd_get h1)
      exact h2.kept (o _ h2.lt)
  · show H1.size = B + (w.1 + 1)
    rw [z, hA.2.1]
    omega
  · have h3 := hA.2.2.1.2.1 q h1 h2
    rw [← h3]
    exact o q (Nat.lt_of_lt_of_le h1 hA.2.2.1.1)
theorem gC_df {ty : FieldType} (h : ty = .int ∨ ty = .long ∨ ty = .boolean ∨ gTg ty = 2) : gC B sa (gTg ty, if gTg ty = 2 then -1 else 0) = defaultValue ty := by
  rcases h with rfl | rfl | rfl | h
  · rfl
  · rfl
  · rfl
  · rw [if_pos h, h]
    cases ty <;> first | rfl | exact absurd h (by decide)
theorem sd_new {idx : Nat} (hd : decode (yC Y) pc = .ok (.new idx, 3)) (h : xNew Y pc idx ls st w m = some x) : gGo l ss sm sp cA dC dI B sa Y pc ls st w m x := by
  unfold xNew at h
  split at h
  · rename_i ci hci
    cases h
    obtain ⟨p, hp⟩ := tN_ck hci
    unfold ckN at hp
    dsimp only at hp
    split at hp
    · rename_i C T N p q r hv
      simp only [Bool.and_eq_true, decide_eq_true_eq] at hp
      obtain ⟨⟨⟨⟨h9, hN⟩, w1⟩, w2⟩, w3⟩ := hp
      obtain ⟨-, -, hty, -, hws, -⟩ := cl_ok hv
      intro hi
      refine ⟨⟨hi.1, fun u hu => ?_, gOk_new hi.2.2 (Or.inl h9)⟩, Nat.le_succ _, Nat.le_add_right _ _, ?_⟩
      · rcases List.mem_cons.mp hu with rfl | hu
        · exact trivial
        · exact hi.2.1 u hu
      · intro p e R s mm args below meth c H locs cells slots arr Q hE hA hH hc hs kk
        have e0 : ∀ n : Nat, n + ((wNew w ci (gNf ci)).1 - w.1) = n + 1 := fun n => by show n + (w.1 + 1 - w.1) = n + 1; omega
        have e0' : ∀ n : Nat, n + ((wNew w ci (gNf ci)).2.1 - w.2.1) = n + gNf ci := fun n => by show n + (w.2.1 + gNf ci - w.2.1) = _; omega
        dsimp only at kk hc hs
        rw [e0] at hc
        rw [e0'] at hs
        rw [e0, e0'] at kk
        have hK := hE.2.2.2.2.2.2.2.2.1
        have hts := hE.2.2.2.2.1
        have hKn := hK.1 ci _ hv
        refine W.newcK hE.1 hE.2.1 hE.2.2.2.1 (hts _ (ckT_ok w1)) (hts _ (ckT_ok w2)) (hts _ (ckT_ok w3)) rfl hd hc (by rw [hN]; exact hs) hKn.2.1 hA.2.1 fun H1 kC hkC e1 z1 o1 => ?_
        rw [hN]
        have eH : H.size = B + w.1 := hA.2.1
        have kk2 := kk H1 locs arr (g_new hA hE.2.2.2.2.2.2.2.2.2.2.1 ?_ (by omega) (fun q hq => o1 q (by omega)) (by omega) (by omega)) hH
        · rw [List.map_cons, gC_r (by omega)] at kk2
          exact kk2
        · have eS : wS (wNew w ci (gNf ci)) (w.1 : Int) = (ci, gNf ci) := if_pos rfl
          rw [gE_obj (by rw [eS]; exact h9), eS]
          refine ⟨_, hv, (u_born (gFt ci) hts hws hKn hkC e1 hty).to (fun j hj => ?_)⟩
          have e2 : vp_V ((List.range (gNf ci)).map (fun j => gC B sa (gFv (wNew w ci (gNf ci)) (mNew w m) w.1 j))) j = gC B sa (gFv (wNew w ci (gNf ci)) (mNew w m) w.1 j) := by
            simp [vp_V, ← hN, hj]
          rw [e2]
          have e3 : gFv (wNew w ci (gNf ci)) (mNew w m) w.1 j = (gTg (gFt ci j), if gTg (gFt ci j) = 2 then -1 else 0) := by
            simp only [gFv, eS]
            have e4 : wP (wNew w ci (gNf ci)) (w.1 : Int) j = -1 := if_pos rfl
            have e5 : mNew w m (w.1 : Int) j = 0 := if_pos rfl
            rw [e4, e5]
          rw [e3]
          refine (gC_df ?_).symm
          by_cases ht : gTg (gFt ci j) = 2
          · exact Or.inr (Or.inr (Or.inr ht))
          · rcases gFt_ty h9 (by rw [← hN]; exact hj) ht with r | r | r
            · exact Or.inl r
            · exact Or.inr (Or.inl r)
            · exact Or.inr (Or.inr (Or.inl r))
    · cases hp
  · cases h
theorem sd_na {at0 : ArrayType} (hd : decode (yC Y) pc = .ok (.newarray at0, 2)) (h : xNa pc at0 ls st w m = some x) : gGo l ss sm sp cA dC dI B sa Y pc ls st w m x := by
  unfold xNa at h
  split at h
  · rename_i n st'
    split at h
    · rename_i e1
      obtain ⟨tn, zn⟩ := n
      dsimp only at e1 h
      obtain ⟨rfl, n0, n1⟩ := e1
      have main : ∀ kd : Nat, (kd = 100 ∧ at0 = .int) ∨ (kd = 101 ∧ at0 = .long) ∨ (kd = 102 ∧ at0 = .boolean) → x = (pc + 2, ls, (2, (w.1 : Int)) :: st', wNew w kd zn.toNat, mNew w m) → gGo l ss sm sp cA dC dI B sa Y pc ls ((0, zn) :: st') w m x := by
        intro kd hkd hx
        subst hx
        intro hi
        have oi := okV_t0 (hi.2.1 (0, zn) (by simp)) rfl
        refine ⟨⟨hi.1, fun u hu => ?_, gOk_new hi.2.2 (Or.inr ⟨by omega, by omega, by omega⟩)⟩, Nat.le_succ _, Nat.le_add_right _ _, ?_⟩
        · rcases List.mem_cons.mp hu with rfl | hu
          · exact trivial
          · exact hi.2.1 u (by simp [hu])
        · intro p e R s mm args below meth c H locs cells slots arr Q hE hA hH hc hs kk
          have e0 : ∀ n : Nat, n + ((wNew w kd zn.toNat).1 - w.1) = n + 1 := fun n => by show n + (w.1 + 1 - w.1) = n + 1; omega
          have e0' : ∀ n : Nat, n + ((wNew w kd zn.toNat).2.1 - w.2.1) = n + zn.toNat := fun n => by show n + (w.2.1 + zn.toNat - w.2.1) = _; omega
          dsimp only at kk hc hs
          rw [e0] at hc
          rw [e0'] at hs
          rw [e0, e0'] at kk
          have hK := hE.2.2.2.2.2.2.2.2.1
          have hts := hE.2.2.2.2.1
          have eH : H.size = B + w.1 := hA.2.1
          have hnn : ¬ Int32.ofInt zn < 0 := fun q => by
            have := (lt32 oi ⟨by decide, by decide⟩).mp (show Int32.ofInt zn < Int32.ofInt 0 from q)
            omega
          have hcl : (Int32.ofInt zn).toNatClampNeg = zn.toNat := ix32 oi
          have eS : wS (wNew w kd zn.toNat) (w.1 : Int) = (kd, zn.toNat) := if_pos rfl
          have hkk : ∀ (H1 : Heap) (ty : FieldType) (cA' : ClassId), ((kd = 100 ∧ ty = .int) ∨ (kd = 101 ∧ ty = .long) ∨ (kd = 102 ∧ ty = .boolean)) → H1[B + w.1]? = some (arrV cA' zn.toNat (fun _ => defaultValue ty)) → H1.size = B + w.1 + 1 → (∀ q, q < B + w.1 → H1[q]? = H[q]?) → s.vm.findClass ("[" ++ ty.toString) = some cA' → W p l e R s mm args below meth c H1 locs (cells + 1) (slots + zn.toNat) Q (F0 mm (pc + 2) arr (.ref (B + w.1) :: st'.map (gC B sa))) := by
            intro H1 ty cA' hty e1 z1 o1 hNm
            have kk2 := kk H1 locs arr (g_new hA hE.2.2.2.2.2.2.2.2.2.2.1 ?_ (by omega) (fun q hq => o1 q (by omega)) (by omega) (by omega)) hH
            · rw [List.map_cons, gC_r (by omega)] at kk2
              exact kk2
            · rcases hty with ⟨rfl, rfl⟩ | ⟨rfl, rfl⟩ | ⟨rfl, rfl⟩
              · have hca := (hK.2 0 (cA 100, .int) rfl).2
                have : cA' = cA 100 := Option.some.inj (hNm.symm.trans hca)
                subst this
                have eM : mNew w m (w.1 : Int) = fun _ => 0 := by funext j; exact if_pos rfl
                rw [gE_k (kd := 100) (by rw [eS]) (Or.inl rfl), gArr_i 100 _ (Or.inl rfl), eS, eM]
                exact e1
              · have hca := (hK.2 1 (cA 101, .long) rfl).2
                have : cA' = cA 101 := Option.some.inj (hNm.symm.trans hca)
                subst this
                have eM : mNew w m (w.1 : Int) = fun _ => 0 := by funext j; exact if_pos rfl
                rw [gE_k (kd := 101) (by rw [eS]) (Or.inr (Or.inl rfl)), gArr_l, eS, eM]
                exact e1
              · have hca := (hK.2 2 (cA 102, .boolean) rfl).2
                have : cA' = cA 102 := Option.some.inj (hNm.symm.trans hca)
                subst this
                have eM : mNew w m (w.1 : Int) = fun _ => 0 := by funext j; exact if_pos rfl
                rw [gE_k (kd := 102) (by rw [eS]) (Or.inr (Or.inr rfl)), gArr_i 102 _ (Or.inr rfl), eS, eM]
                exact e1
          rw [List.map_cons, gC_i]
          rcases hkd with ⟨k1, rfl⟩ | ⟨k1, rfl⟩ | ⟨k1, rfl⟩
          · exact va_newaK (atype := .int) hE.1 hE.2.1 (hts _ aw_100) rfl hd rfl hnn hcl (by show zn.toNat * 4 ≤ _; omega) hc hs eH (fun H1 cA' e1 z1 o1 _ hNm => hkk H1 .int cA' (Or.inl ⟨k1, rfl⟩) e1 z1 o1 hNm)
          · exact va_newaK (atype := .long) hE.1 hE.2.1 (hts _ aw_101) rfl hd rfl hnn hcl (by show zn.toNat * 8 ≤ _; omega) hc hs eH (fun H1 cA' e1 z1 o1 _ hNm => hkk H1 .long cA' (Or.inr (Or.inl ⟨k1, rfl⟩)) e1 z1 o1 hNm)
          · exact va_newaK (atype := .boolean) hE.1 hE.2.1 (hts _ aw_102) rfl hd rfl hnn hcl (by show zn.toNat * 1 ≤ _; omega) hc hs eH (fun H1 cA' e1 z1 o1 _ hNm => hkk H1 .boolean cA' (Or.inr (Or.inr ⟨k1, rfl⟩)) e1 z1 o1 hNm)
      split at h
      · exact main 100 (Or.inl ⟨rfl, rfl⟩) (Option.some.inj h).symm
      · exact main 101 (Or.inr (Or.inl ⟨rfl, rfl⟩)) (Option.some.inj h).symm
      · exact main 102 (Or.inr (Or.inr ⟨rfl, rfl⟩)) (Option.some.inj h).symm
      · cases h
    · cases h
  · cases h
theorem gOk_grid (h : gOk ss sm sp w m) {kd n k : Nat} (hk : kd = 100 ∨ kd = 101) (hn : n ≤ 100000) (hk2 : k ≤ 100000) : gOk ss sm sp (wGrid w kd n k) (mGrid w m n) := by
  have eS : ∀ a, wS (wGrid w kd n k) a = if a = (w.1 : Int) then (kd + 3, n) else if (w.1 : Int) < a ∧ a ≤ (w.1 : Int) + n then (kd, k) else wS w a := fun _ => rfl
  have eP : ∀ a i, wP (wGrid w kd n k) a i = if a = (w.1 : Int) then (if 0 ≤ i ∧ i < n then (w.1 : Int) + 1 + i else -1) else if (w.1 : Int) < a ∧ a ≤ (w.1 : Int) + n then -1 else wP w a i := fun _ _ => rfl
  have eM : ∀ a i, mGrid w m n a i = if (w.1 : Int) ≤ a ∧ a ≤ (w.1 : Int) + n then 0 else m a i := fun _ _ => rfl
  refine ⟨fun k' hk' => ?_, fun a ha => ?_, fun a ha => ?_, ?_⟩
  · have hk' : k' < w.1 + 1 + n := hk'
    by_cases e : k' < w.1
    · have h1 := h.1 k' e
      refine ⟨by rw [eS, if_neg (by omega), if_neg (by omega)]; exact h1.1, fun j => ?_, fun j => ?_⟩
      · have e1 : mGrid w m n k' j = m k' j := by rw [eM, if_neg (by omega)]
        have e2 : wS (wGrid w kd n k) k' = wS w k' := by rw [eS, if_neg (by omega), if_neg (by omega)]
        rw [e1, e2]; exact h1.2.1 j
      · rw [eP, if_neg (by omega), if_neg (by omega)]; exact h1.2.2 j
    · refine ⟨?_, fun j => ?_, fun j => ?_⟩
      · rw [eS]
        by_cases e2 : (k' : Int) = w.1
        · rw [if_pos e2]; dsimp only; omega
        · rw [if_neg e2, if_pos (by omega)]; dsimp only; omega
      · have e1 : mGrid w m n k' j = 0 := by rw [eM, if_pos (by omega)]
        rw [e1]; exact okT_0 _
      · rw [eP]
        by_cases e2 : (k' : Int) = w.1
        · rw [if_pos e2]; split <;> omega
        · rw [if_neg e2, if_pos (by omega)]; decide
  · have e1 : ((wGrid w kd n k).1 : Int) = (w.1 : Int) + 1 + n := by show ((w.1 + 1 + n : Nat) : Int) = _; omega
    rw [e1] at ha
    rw [eS, if_neg (by omega), if_neg (by omega)]
    exact h.2.1 a (by omega)
  · have s3 := h.2.2.1 a ha
    refine ⟨by rw [eS, if_neg (by omega), if_neg (by omega)]; exact s3.1, fun i => ?_, fun i => ?_⟩
    · rw [eM, if_neg (by omega)]; exact s3.2.1 i
    · rw [eP, if_neg (by omega), if_neg (by omega)]; exact s3.2.2 i
  · rw [eP, if_neg (by omega), if_neg (by omega)]; exact h.2.2.2
theorem g_outer (c : ClassId) (N h0 : Nat) : ∀ i : Nat, Jvm.Free.Multi.outerC c N h0 i = arrV c N (fun j => va_rf (if j < i then some (h0 + 1 + j) else none))
  | 0 => by
    show ({ cls := c, slots := Array.replicate N .null, vm := .none } : Cell) = _
    rw [arrV_new]
    refine congrArg (arrV c N) (funext fun j => ?_)
    simp [va_rf]
  | i + 1 => by
    show (Jvm.Free.Multi.outerC c N h0 i).setSlot i (.ref (h0 + 1 + i)) = _
    rw [g_outer c N h0 i, arrV_store]
    refine congrArg (arrV c N) (funext fun j => ?_)
    by_cases e : j = i
    · subst e
      simp [updV, va_rf]
    · by_cases h : j < i
      · simp [updV, e, h, Nat.lt_succ_of_lt h]
      · simp [updV, e, h, show ¬ j < i + 1 by omega]
theorem sd_ma {idx : Nat} (hd : decode (yC Y) pc = .ok (.multianewarray idx 2, 4)) (h : xMa Y pc idx ls st w m = some x) : gGo l ss sm sp cA dC dI B sa Y pc ls st w m x := by
  unfold xMa at h
  split at h
  · rename_i k n st'
    split at h
    · rename_i kd hkd
      split at h
      · rename_i e1
        obtain ⟨tk, zk⟩ := k
        obtain ⟨tn, zn⟩ := n
        dsimp only at e1 h
        obtain ⟨rfl, rfl, n0, n1, k0, k1⟩ := e1
        cases h
        obtain ⟨pp, hp⟩ := tA_ck hkd
        unfold ckA at hp
        split at hp
        · rename_i pp
          simp only [Bool.or_eq_true, Bool.and_eq_true, beq_iff_eq] at hp
          have hk3 : kd = 100 ∨ kd = 101 := by rcases hp with ⟨r, -⟩ | ⟨r, -⟩ <;> omega
          intro hi
          have on := okV_t0 (hi.2.1 (0, zn) (by simp)) rfl
          have ok := okV_t0 (hi.2.1 (0, zk) (by simp)) rfl
          refine ⟨⟨hi.1, fun u hu => ?_, gOk_grid hi.2.2 hk3 (by omega) (by omega)⟩, by show w.1 ≤ w.1 + 1 + _; omega, by show w.2.1 ≤ w.2.1 + _ + _; omega, ?_⟩
          · rcases List.mem_cons.mp hu with rfl | hu
            · exact trivial
            · exact hi.2.1 u (by simp [hu])
          · intro p e R s mm args below meth c H locs cells slots arr Q hE hA hH hc hs kk
            have e0 : ∀ n : Nat, n + ((wGrid w kd zn.toNat zk.toNat).1 - w.1) = n + 1 + zn.toNat := fun n => by show n + (w.1 + 1 + zn.toNat - w.1) = _; omega
            have e0' : ∀ n : Nat, n + ((wGrid w kd zn.toNat zk.toNat).2.1 - w.2.1) = n + zn.toNat + zn.toNat * zk.toNat := fun n => by show n + (w.2.1 + zn.toNat + zn.toNat * zk.toNat - w.2.1) = _; omega
            dsimp only at kk hc hs
            rw [e0] at hc
            rw [e0'] at hs
            rw [e0, e0'] at kk
            have hK := hE.2.2.2.2.2.2.2.2.1
            have hts := hE.2.2.2.2.1
            have eH : H.size = B + w.1 := hA.2.1
            have hnn : ¬ Int32.ofInt zn < 0 := fun q => by
              have := (lt32 on ⟨by decide, by decide⟩).mp (show Int32.ofInt zn < Int32.ofInt 0 from q)
              omega
            have hkn : ¬ Int32.ofInt zk < 0 := fun q => by
              have := (lt32 ok ⟨by decide, by decide⟩).mp (show Int32.ofInt zk < Int32.ofInt 0 from q)
              omega
            have cn : (Int32.ofInt zn).toNatClampNeg = zn.toNat := ix32 on
            have ck : (Int32.ofInt zk).toNatClampNeg = zk.toNat := ix32 ok
            have eS : ∀ a, wS (wGrid w kd zn.toNat zk.toNat) a = if a = (w.1 : Int) then (kd + 3, zn.toNat) else if (w.1 : Int) < a ∧ a ≤ (w.1 : Int) + zn.toNat then (kd, zk.toNat) else wS w a := fun _ => rfl
            have eP : ∀ a i, wP (wGrid w kd zn.toNat zk.toNat) a i = if a = (w.1 : Int) then (if 0 ≤ i ∧ i < zn.toNat then (w.1 : Int) + 1 + i else -1) else if (w.1 : Int) < a ∧ a ≤ (w.1 : Int) + zn.toNat then -1 else wP w a i := fun _ _ => rfl
            have eM : ∀ a i, mGrid w m zn.toNat a i = if (w.1 : Int) ≤ a ∧ a ≤ (w.1 : Int) + zn.toNat then 0 else m a i := fun _ _ => rfl
            have fin : ∀ (H1 : Heap), H1.size = H.size + 1 + zn.toNat → H1[H.size]? = some (arrV (cA (kd + 3)) zn.toNat (fun j => va_rf (if j < zn.toNat then some (H.size + 1 + j) else none))) → (∀ q, q < H.size → H1[q]? = H[q]?) → (∀ j, j < zn.toNat → H1[H.size + 1 + j]? = some (vp_cell (cA kd) (zk.toNat, gArr B kd (fun _ => 0)))) → gAt cA dC dI B sa R s (wGrid w kd zn.toNat zk.toNat) (mGrid w m zn.toNat) H1 locs (cells + 1 + zn.toNat) (slots + zn.toNat + zn.toNat * zk.toNat) := by
              intro H1 z1 e1 o1 i1
              refine ⟨fun k q hq => ?_, ?_, ⟨by have := hA.2.2.1.1; omega, fun q h1 h2 => ?_, hA.2.2.1.2.2⟩, by omega, by omega⟩
              · obtain ⟨hk, rfl⟩ := gWd_of hq
                have hk : k < w.1 + 1 + zn.toNat := hk
                by_cases c0 : k < w.1
                · have e2 : gE cA B sa (wGrid w kd zn.toNat zk.toNat) (mGrid w m zn.toNat) k = gE cA B sa w m k := gE_row (by rw [eS, if_neg (by omega), if_neg (by omega)]) (fun j => by rw [eM, if_neg (by omega)]) (fun j => by rw [eP, if_neg (by omega), if_neg (by omega)])
                  rw [e2]
                  have h2 := hA.1 k _ (gWd_get c0)
                  exact h2.kept (o1 _ h2.lt)
                · by_cases c1 : k = w.1
                  · subst c1
                    have e3 : wS (wGrid w kd zn.toNat zk.toNat) (w.1 : Int) = (kd + 3, zn.toNat) := by rw [eS, if_pos rfl]
                    rw [gE_r (by rw [e3]; dsimp only; omega), e3]
                    show H1[B + w.1]? = some (vp_cell _ _)
                    rw [vp_cell_q, ← eH, e1]
                    congr 2
                    funext j
                    rw [eP, if_pos rfl]
                    by_cases c2 : j < zn.toNat
                    · rw [if_pos c2, if_pos (show (0 : Int) ≤ j ∧ (j : Int) < zn.toNat by omega), if_pos (by omega)]
                      congr 2
                      omega
                    · rw [if_neg c2, if_neg (show ¬ ((0 : Int) ≤ j ∧ (j : Int) < zn.toNat) by omega), if_neg (by omega)]
                  · have e3 : wS (wGrid w kd zn.toNat zk.toNat) (k : Int) = (kd, zk.toNat) := by rw [eS, if_neg (by omega), if_pos (by omega)]
                    have e4 : mGrid w m zn.toNat (k : Int) = fun _ => 0 := by funext j; rw [eM, if_pos (by omega)]
                    rw [gE_k (kd := kd) (by rw [e3]) (by omega), e3, e4]
                    have := i1 (k - w.1 - 1) (by omega)
                    rw [show H.size + 1 + (k - w.1 - 1) = B + k by omega] at this
                    exact this
              · show H1.size = B + (w.1 + 1 + zn.toNat)
                omega
              · have h3 := hA.2.2.1.2.1 q h1 h2
                rw [← h3]
                exact o1 q (Nat.lt_of_lt_of_le h1 hA.2.2.1.1)
            rw [List.map_cons, List.map_cons, gC_i, gC_i]
            have go : ∀ (ty : FieldType), ((kd = 100 ∧ ty = .int) ∨ (kd = 101 ∧ ty = .long)) → (Cond.classLink (gCn (yO Y)) idx ("[" ++ (FieldType.array ty).toString)).before args s = true → W p l e R s mm args below meth c H locs cells slots Q (F0 mm pc arr (.int (Int32.ofInt zk) :: .int (Int32.ofInt zn) :: st'.map (gC B sa))) := by
              intro ty hty hlink
              intro T hT Xs
              have hover : (Cond.arrayOver (.array ty)).before args s = true := by
                rcases hty with ⟨-, rfl⟩ | ⟨-, rfl⟩
                · exact hE.2.2.2.2.2.2.2.2.2.1.2.2.2.2.2.2.1
                · exact hE.2.2.2.2.2.2.2.2.2.1.2.2.2.2.2.2.2
              have harr : (Cond.arrayClass ty).before args s = true := by
                rcases hty with ⟨-, rfl⟩ | ⟨-, rfl⟩
                · exact hts _ aw_100
                · exact hts _ aw_101
              have hcb : componentBytes ty ≤ 8 ∧ fits ty (defaultValue ty) = true ∧ (defaultValue ty).isDefault = true := by
                rcases hty with ⟨-, rfl⟩ | ⟨-, rfl⟩ <;> exact ⟨by decide, by decide, by decide⟩
              have hmul : zk.toNat * componentBytes ty ≤ zk.toNat * 8 := Nat.mul_le_mul_left _ hcb.1
              obtain ⟨vm₁, cA', comp, -, fA, fC, hO, -, X', step⟩ := Xs.multianewarray2F hE.1 hE.2.2.2.1 hlink hover harr (g := F0 mm pc arr (.int (Int32.ofInt zk) :: .int (Int32.ofInt zn) :: st'.map (gC B sa))) rfl (by rw [hE.2.1]; exact hd) rfl hnn hkn (by rw [cn]; omega) (by rw [ck]; omega) (by rw [ck]; omega) hcb.2.1 hcb.2.2 (by rw [cn]; omega) (by rw [cn, ck]; omega)
              rw [cn, ck] at X' step
              generalize hF : Jvm.Free.Multi.fill (T.setVm vm₁) cA' comp zn.toNat zk.toNat (defaultValue ty) zn.toNat = F at X' step
              have hTh : (T.setVm vm₁).heap = H := hT
              obtain ⟨f1, f2, -, -⟩ := Jvm.Free.Multi.fill_facts (T.setVm vm₁) cA' comp zn.toNat zk.toNat (defaultValue ty) zn.toNat
              rw [hF, hTh] at f1 f2
              have hold : ∀ q : Nat, q < H.size → F.heap[q]? = H[q]? := fun q hq => by
                have := Jvm.Free.Multi.fill_old (T.setVm vm₁) cA' comp zn.toNat zk.toNat (defaultValue ty) (a := q) (by rw [hTh]; exact hq) zn.toNat
                rw [hF, hTh] at this
                exact this
              have hin : ∀ j : Nat, j < zn.toNat → F.heap[H.size + 1 + j]? = some (Jvm.Free.Multi.innerC comp zk.toNat (defaultValue ty)) := fun j hj => by
                have := Jvm.Free.Multi.fill_inner (T.setVm vm₁) cA' comp zn.toNat zk.toNat (defaultValue ty) zn.toNat j hj
                rw [hF, hTh] at this
                exact this
              rw [g_outer] at f2
              have main : gAt cA dC dI B sa R s (wGrid w kd zn.toNat zk.toNat) (mGrid w m zn.toNat) F.heap locs (cells + 1 + zn.toNat) (slots + zn.toNat + zn.toNat * zk.toNat) := by
                rcases hty with ⟨rfl, rfl⟩ | ⟨rfl, rfl⟩
                · have h3 : cA' = cA 103 := Option.some.inj (fA.symm.trans (hK.2 3 (cA 103, .array .int) rfl).2)
                  have h4 : comp = cA 100 := Option.some.inj (fC.symm.trans (hK.2 0 (cA 100, .int) rfl).2)
                  subst h3; subst h4
                  refine fin F.heap f1 f2 hold (fun j hj => ?_)
                  rw [hin j hj, gArr_i 100 _ (Or.inl rfl), vp_cell_i]
                  show some ({ cls := cA 100, slots := Array.replicate zk.toNat (.int 0), vm := .none } : Cell) = _
                  rw [arrV_new]
                  rfl
                · have h3 : cA' = cA 104 := Option.some.inj (fA.symm.trans (hK.2 4 (cA 104, .array .long) rfl).2)
                  have h4 : comp = cA 101 := Option.some.inj (fC.symm.trans (hK.2 1 (cA 101, .long) rfl).2)
                  subst h3; subst h4
                  refine fin F.heap f1 f2 hold (fun j hj => ?_)
                  rw [hin j hj, gArr_l, vp_cell_l]
                  show some ({ cls := cA 101, slots := Array.replicate zk.toNat (.long 0), vm := .none } : Cell) = _
                  rw [arrV_new]
                  rfl
              have kk2 := kk F.heap locs arr main hH
              rw [List.map_cons, gC_r (by omega)] at kk2
              obtain ⟨t, a1, b1⟩ := kk2 F rfl X'
              refine ⟨t, step t ?_, b1⟩
              have e5 : T.heap.size = B + w.1 := by rw [hT, eH]
              rw [e5]
              exact a1
            rcases hp with ⟨r1, r2⟩ | ⟨r1, r2⟩
            · exact go .int (Or.inl ⟨r1, rfl⟩) (hts _ (ckT_ok r2))
            · exact go .long (Or.inr ⟨r1, rfl⟩) (hts _ (ckT_ok r2))
        · cases hp
      · cases h
    · cases h
  · cases h
end SND4
