/-! SOUND, third part: fields, rows, new cells, methods of the JDK. -/
section SND3
variable {l : Launch} {ss : Int → Nat × Nat} {sm sp : Int → Int → Int} {cA dC : Nat → ClassId} {dI : Nat → Nat → Nat} {B : Nat} {sa : Nat → Nat} {Y : gY} {pc len : Nat} {ls st : List gV} {w : gW} {m : gM} {x : gX}
theorem tF_sp {o i : Nat} {q : Nat × Nat} (h : tF o i = some q) : ∃ (C : String) (T : u_T) (N : Nat), vwCl[q.1]? = some (C, T, N) ∧ q.1 < 9 ∧ q.2 < N ∧ N = gNf q.1 ∧ Cond.fieldLink (gCn o) i (T q.2).1 (T q.2).2.1 (T q.2).2.2.1 ∈ gAW ∧ (∀ k, k < N → parseFieldDescriptor (T k).2.2.1 = some (gFt q.1 k)) ∧ (∀ a, a < N → ∀ b, b < N → a ≠ b → (T a).2.1 ≠ (T b).2.1) ∧ (∀ w ∈ u_ws C T N, w ∈ gAW) ∧ (T q.2).2.2.2 = gFin q.1 q.2 := by
  obtain ⟨p, hp⟩ := tF_ck h
  unfold ckF at hp
  dsimp only at hp
  split at hp
  · rename_i C T N p hv
    simp only [Bool.and_eq_true, decide_eq_true_eq] at hp
    obtain ⟨c1, c2, c3, c4, c5, c6⟩ := cl_ok hv
    exact ⟨C, T, N, hv, c1, hp.1.1, c2, ckT_ok hp.2, c3, c4, c5, c6 _ hp.1.1⟩
  · cases hp
theorem kind_lt (hss : gSs ss sm) (h : gOk ss sm sp w m) {a : Int} {k : Nat} (ha : (wS w a).1 = k) (hk : k ≠ 99 ∧ k ≠ 100 ∧ k ≠ 110 ∧ k ≠ 120) : 0 ≤ a ∧ a < w.1 := by
  rcases gOk_lt h (a := a) (by rw [ha]; exact hk.1) with q | q
  · exact q
  · have := (hss a q).1
    rw [← (h.2.2.1 a q).1, ha] at this
    omega
theorem nat_of {a : Int} (h : 0 ≤ a) : a = (a.toNat : Int) := by omega
theorem okT_V {ty : FieldType} {z : Int} (h : okT ty z) (h2 : gTg ty ≠ 2) : okV (gTg ty, z) := by
  cases ty <;> first | exact h | exact absurd rfl h2 | (rcases h with rfl | rfl <;> exact ⟨by decide, by decide⟩)
theorem okV2 (z : Int) : okV (2, z) := trivial
theorem sd_gf (hss : gSs ss sm) {idx : Nat} (hd : decode (yC Y) pc = .ok (.getfield idx, 3)) (h : xGf Y pc idx ls st w m = some x) : gGo l ss sm sp cA dC dI B sa Y pc ls st w m x := by
  unfold xGf at h
  split at h
  · rename_i a st'
    split at h
    · rename_i q hq
      split at h
      · rename_i e1
        cases h
        obtain ⟨C, T, N, hv, h9, hj, hN, hlink, hty, hnm, hws, -⟩ := tF_sp hq
        obtain ⟨t, z⟩ := a
        dsimp only at e1
        obtain ⟨rfl, e2⟩ := e1
        have hne : q.1 ≠ 99 ∧ q.1 ≠ 100 ∧ q.1 ≠ 110 ∧ q.1 ≠ 120 := by omega
        refine gGo.of (fun q1 q2 q3 => ⟨q1, fun u hu => ?_⟩) (fun hi hE hA hH kk => ?_)
        · rcases List.mem_cons.mp hu with rfl | hu
          · dsimp only
            obtain ⟨z0, z1⟩ := kind_lt hss q3 e2 hne
            have k1 := (q3.1 z.toNat (by omega)).2.1 q.2
            rw [← nat_of z0, e2, if_pos h9] at k1
            by_cases ht : gTg (gFt q.1 q.2) = 2
            · rw [if_pos ht, ht]; exact trivial
            · rw [if_neg ht]; exact okT_V k1 ht
          · exact q2 u (by simp [hu])
        · obtain ⟨z0, z1⟩ := kind_lt hss hi.2.2 e2 hne
          have kk := kk _ hH
          rw [List.map_cons, gC_r z0]
          have hk : z.toNat < w.1 := by omega
          have e3 : (wS w (z.toNat : Int)).1 = q.1 := by rw [← nat_of z0]; exact e2
          have hcell := gWd_get (cA := cA) (B := B) (sa := sa) (m := m) hk
          rw [gE_obj (by rw [e3]; exact h9), e3] at hcell
          refine va_get hE.1 hE.2.1 hE.2.2.2.2.1 hws hE.2.2.2.1 hE.2.2.2.2.2.2.2.2.1 hA.1 z.toNat hcell hv q.2 hj (hE.2.2.2.2.1 _ hlink) (fun _ h => h) (v := gC B sa (gFv w m z.toNat q.2)) ?_ hd ?_
          · simp [← hN, hj]
          · have e4 : gFv w m z.toNat q.2 = (gTg (gFt q.1 q.2), if gTg (gFt q.1 q.2) = 2 then wP w z q.2 else m z q.2) := by
              have e2' : (wS w z).1 = q.1 := e2
              simp only [gFv, ← nat_of z0, e2']
            rw [e4]
            exact kk
      · cases h
    · split at h
      · rename_i hn j hj
        split at h
        · rename_i e1
          cases h
          obtain ⟨t, z⟩ := a
          dsimp only at e1
          obtain ⟨rfl, e2⟩ := e1
          obtain ⟨p, hp⟩ := tSf_ck hj
          have hz : gOk ss sm sp w m → z < -1 := by
            intro q3
            rcases gOk_lt q3 (a := z) (by rw [e2]; decide) with q | q
            · have k0 := (q3.1 z.toNat (by omega)).1
              rw [← nat_of q.1, e2] at k0
              omega
            · exact q
          unfold ckSf at hp
          split at hp
          · rename_i p
            simp only [Bool.or_eq_true, Bool.and_eq_true, beq_iff_eq] at hp
            rcases hp with ⟨rfl, hp⟩ | ⟨rfl, hp⟩
            · refine gGo.of (fun q1 q2 q3 => ⟨q1, fun u hu => ?_⟩) (fun hi hE hA hH kk => ?_)
              · rcases List.mem_cons.mp hu with rfl | hu
                · exact trivial
                · exact q2 u (by simp [hu])
              · have z1 := hz hi.2.2
                have s3 := hi.2.2.2.2.1 z z1
                rw [s3.1] at e2
                have f3 := hE.2.2.2.2.2.2.2.2.2.1.2.2.1 z z1 e2
                have kk := kk _ hH
                rw [List.map_cons, gC_s z1]
                refine vk_getf hE.1 hE.2.1 f3.2.1 hA.2.2.1 hE.2.2.2.1 (hE.2.2.2.2.1 _ (ckT_ok hp)) (fun _ h => h) hd ?_
                simp only [if_true, List.map_cons] at kk
                rw [s3.2.2] at kk
                exact kk
            · refine gGo.of (fun q1 q2 q3 => ⟨q1, fun u hu => ?_⟩) (fun hi hE hA hH kk => ?_)
              · rcases List.mem_cons.mp hu with rfl | hu
                · show okI _
                  rw [(q3.2.2.1 z (hz q3)).2.1]
                  exact (hss z (hz q3)).2.2 _
                · exact q2 u (by simp [hu])
              · have z1 := hz hi.2.2
                have s3 := hi.2.2.2.2.1 z z1
                rw [s3.1] at e2
                have f3 := hE.2.2.2.2.2.2.2.2.2.1.2.2.1 z z1 e2
                have kk := kk _ hH
                rw [List.map_cons, gC_s z1]
                refine vk_getf hE.1 hE.2.1 f3.2.2 hA.2.2.1 hE.2.2.2.1 (hE.2.2.2.2.1 _ (ckT_ok hp)) (fun _ h => h) hd ?_
                have e5 : (if (1 : Nat) = 0 then ((2, wP w z ((1 : Nat) : Int)) : gV) else (0, m z ((1 : Nat) : Int))) = (0, m z 1) := rfl
                rw [e5, List.map_cons] at kk
                rw [s3.2.1] at kk
                exact kk
          · cases hp
        · cases h
      · cases h
  · cases h
/-- numbers that are written keep their places' types -/
theorem gOk_U (h : gOk ss sm sp w m) {k : Nat} (hk : k < w.1) {i v : Int} (ho : ∀ j : Nat, i = j → okT (if (wS w k).1 < 9 then gFt (wS w k).1 j else gEt (wS w k).1) v) : gOk ss sm sp w (gU m k i v) := by
  refine ⟨fun k' hk' => ⟨(h.1 k' hk').1, fun j => ?_, (h.1 k' hk').2.2⟩, h.2.1, fun a ha => ⟨(h.2.2.1 a ha).1, fun i' => ?_, (h.2.2.1 a ha).2.2⟩, h.2.2.2⟩
  · unfold gU
    by_cases e : (k' : Int) = k ∧ (j : Int) = i
    · rw [if_pos e]
      have e1 : k' = k := by omega
      subst e1
      exact ho j e.2.symm
    · rw [if_neg e]
      exact (h.1 k' hk').2.1 j
  · unfold gU
    rw [if_neg (by omega)]
    exact (h.2.2.1 a ha).2.1 i'
theorem gOk_P (h : gOk ss sm sp w m) {k : Nat} (hk : k < w.1) {i v : Int} (hv : -1 ≤ v) : gOk ss sm sp (wPut w k i v) m := by
  have eS : ∀ a, wS (wPut w k i v) a = wS w a := fun _ => rfl
  have eP : ∀ a j, wP (wPut w k i v) a j = if a = k ∧ j = i then v else wP w a j := fun _ _ => rfl
  refine ⟨fun k' hk' => ⟨?_, ?_, fun j => ?_⟩, fun a ha => ?_, fun a ha => ⟨?_, (h.2.2.1 a ha).2.1, fun i' => ?_⟩, ?_⟩
  · rw [eS]; exact (h.1 k' hk').1
  · rw [eS]; exact (h.1 k' hk').2.1
  · rw [eP]
    split
    · exact hv
    · exact (h.1 k' hk').2.2 j
  · rw [eS]; exact h.2.1 a ha
  · rw [eS]; exact (h.2.2.1 a ha).1
  · rw [eP, if_neg (by omega)]
    exact (h.2.2.1 a ha).2.2 i'
  · rw [eP, if_neg (by omega)]
    exact h.2.2.2
section ENV
variable {p : Program} {e : Env} {R : Room} {s : State} {mm : MethodId} {args : Array Value} {below : List Frame} {meth : Method} {c : Code} {H : Heap} {locs : List Loc} {cells slots : Nat} {arr : Array Slot} {Q : State → Prop} {rest : List Value}
/-- a field is written: final or not -/
theorem g_putf (hE : gEnv ss sm sp cA dC dI B sa Y p R s mm args meth c) (hA : gAt cA dC dI B sa R s w m H locs cells slots) {w' : gW} {m' : gM} {k j idx : Nat} (hk : k < w.1) (hw : w'.1 = w.1) (hq : tF (yO Y) idx = some ((wS w k).1, j)) (hS : wS w' k = wS w k) {v : Value}
    (ho : ∀ i : Nat, i < w.1 → i ≠ k → gE cA B sa w' m' i = gE cA B sa w m i) (hv : ∀ i : Nat, i < gNf (wS w k).1 → gC B sa (gFv w' m' k i) = if i = j then v else gC B sa (gFv w m k i)) (hf : gFin (wS w k).1 j = false ∨ (yH Y = true ∧ (wS w k).1 = yO Y))
    (hn : narrow (gFt (wS w k).1 j) v = v) (hfit : fits (gFt (wS w k).1 j) v = true) (hd : decode (yC Y) pc = .ok (.putfield idx, 3))
    (kk : ∀ (H1 : Heap) (locs1 : List Loc), gAt cA dC dI B sa R s w' m' H1 locs1 cells slots → W p l e R s mm args below meth c H1 locs1 cells slots Q (F0 mm (pc + 3) arr rest)) :
    W p l e R s mm args below meth c H locs cells slots Q (F0 mm pc arr (v :: .ref (B + k) :: rest)) := by
  obtain ⟨C, T, N, hcl, h9, hj, hN, hlink, hty, hnm, hws, hfin⟩ := tF_sp hq
  dsimp only at hcl h9 hj hN hlink hty hnm hws hfin
  obtain ⟨hx, hb, -, hown, hts, -, -, hini, hK, -⟩ := hE
  have hap := va_apart (own := gCn (yO Y)) hts hws _ hty hnm hK hcl
  have hcell := gWd_get (cA := cA) (B := B) (sa := sa) (m := m) hk
  rw [gE_obj h9] at hcell
  obtain ⟨r, h1, cell, q1, q2, q3, q4⟩ := hA.1 k _ hcell
  have hr : r = (C, T, N) := Option.some.inj (h1.symm.trans hcl)
  subst hr
  obtain ⟨hSl, hfc, kC, hkC, hkind⟩ := hK.1 _ _ hcl
  obtain ⟨cf, kf, fi, f, hi, hsl⟩ := hSl j hj
  have hlay := hts _ (hws _ (u_in_lay hj))
  have hst := (u_facts hfc hkC (u_lays hts hws hj) hi).1
  have fin : ∀ (H' : Heap), H'[B + k]? = some (cell.setSlot f.slot v) → H'.size = H.size → (∀ q, q ≠ B + k → H'[q]? = H[q]?) → W p l e R s mm args below meth c H' (locs ++ [⟨B + k, f.slot⟩]) cells slots Q (F0 mm (pc + 3) arr rest) := by
    intro H' e1 e2 e3
    have hlen : j < ((List.range (gNf (wS w k).1)).map (fun i => gC B sa (gFv w m k i))).length := by simp [← hN, hj]
    rw [hsl] at e1 ⊢
    refine kk H' _ ⟨?_, by rw [e2, hA.2.1, hw], hA.2.2.1.put e2 e3 (Nat.le_add_right _ _), hA.2.2.2⟩
    rw [← gWd_set hk hw ho, gE_obj (by rw [hS]; exact h9), hS]
    have e4 : (List.range (gNf (wS w k).1)).map (fun i => gC B sa (gFv w' m' k i)) = ((List.range (gNf (wS w k).1)).map (fun i => gC B sa (gFv w m k i))).set j v := by
      apply List.ext_getElem?
      intro i
      rw [List.getElem?_set]
      by_cases hi2 : i < gNf (wS w k).1
      · by_cases eij : j = i
        · subst eij
          rw [if_pos rfl, if_pos hlen]
          simp [hi2, hv j hi2]
        · rw [if_neg eij]
          simp [hi2, hv i hi2, Ne.symm eij]
      · have n1 : ((List.range (gNf (wS w k).1)).map (fun i => gC B sa (gFv w' m' k i)))[i]? = none := by simp; omega
        have n2 : ((List.range (gNf (wS w k).1)).map (fun i => gC B sa (gFv w m k i)))[i]? = none := by simp; omega
        rw [n1, if_neg (by omega), n2]
    rw [e4]
    exact hA.1.set gWd_D hcell ⟨_, hcl, t_OB.to (V := updV (vp_V _) j v) ⟨_, e1, q2, q3, t_set q4 hap hj v⟩ (fun i _ => vp_updV_set hlen v i)⟩ e3
  by_cases hff : gFin (wS w k).1 j = false
  · unfold u_lay at hlay
    rw [if_neg (by rw [hfin, hff]; decide)] at hlay
    have h6 := u_store hfc hkC hkind hlay hi (hty j hj) hn hfit
    exact W.putK hx hb (f := f) ⟨hown, hts _ hlink, ⟨_, _, _, hi⟩, hst⟩ (by rw [q2]; exact h6) q1 q3 (by rw [hsl]; exact k2_hasslot (q4 j hj)) rfl rfl hd fin
  · have hft : gFin (wS w k).1 j = true := by simpa using hff
    rcases hf with hf | ⟨hf, hoc⟩
    · exact absurd hf hff
    · unfold u_lay at hlay
      rw [if_pos (by rw [hfin, hft])] at hlay
      have hcf : mm.cls = cf := by
        obtain ⟨_, _, c', _, _, _, -, -, hf', -, -, -, hown2, -⟩ := Cond.laysFinal_spec hlay
        have e1 : c' = cf := by have := hi.symm.trans hf'; simp at this; exact this.1.symm
        have e2 : (T j).1 = gCn (yO Y) := by
          rw [← hoc]
          exact cl_own hcl hj
        rw [e2] at hown2
        rw [← e1]; exact Option.some.inj (hown.symm.trans hown2)
      have h6 := u_fits hfc hkC hkind (Or.inr hlay) hi (hty j hj) hn hfit
      exact W.putFinK hx hb hown (hts _ hlink) hi hst hcf (hini hf) (by rw [q2]; exact h6) q1 q3 (by rw [hsl]; exact k2_hasslot (q4 j hj)) rfl rfl hd fin
end ENV
theorem narrow_ty {ty : FieldType} {z : Int} (h : okT ty z) (h2 : gTg ty ≠ 2) (h3 : ty = .int ∨ ty = .long ∨ ty = .boolean) : narrow ty (gC B sa (gTg ty, z)) = gC B sa (gTg ty, z) ∧ fits ty (gC B sa (gTg ty, z)) = true := by
  rcases h3 with rfl | rfl | rfl
  · exact ⟨rfl, rfl⟩
  · exact ⟨rfl, rfl⟩
  · rcases h with rfl | rfl <;> exact ⟨rfl, rfl⟩
theorem fits_ref {ty : FieldType} (h : gTg ty = 2) (z : Int) : narrow ty (gC B sa (2, z)) = gC B sa (2, z) ∧ fits ty (gC B sa (2, z)) = true := by
  rcases gC_rf (B := B) (sa := sa) z with q | ⟨a, q⟩ <;> rw [q] <;> cases ty <;> first | exact ⟨rfl, rfl⟩ | exact absurd h (by decide)
theorem gFt_ty {ci j : Nat} (h : ci < 9) (hj : j < gNf ci) (h2 : gTg (gFt ci j) ≠ 2) : gFt ci j = .int ∨ gFt ci j = .long ∨ gFt ci j = .boolean := by
  have key : ∀ ci, ci < 9 → ∀ j, j < gNf ci → gTg (gFt ci j) ≠ 2 → gFt ci j = .int ∨ gFt ci j = .long ∨ gFt ci j = .boolean := by decide +kernel
  exact key ci h j hj h2
theorem sd_pf (hss : gSs ss sm) {idx : Nat} (hd : decode (yC Y) pc = .ok (.putfield idx, 3)) (h : xPf Y pc idx ls st w m = some x) : gGo l ss sm sp cA dC dI B sa Y pc ls st w m x := by
  unfold xPf at h
  split at h
  · rename_i v a st'
    split at h
    · rename_i q hq
      split at h
      · rename_i e1
        obtain ⟨tv, zv⟩ := v
        obtain ⟨ta, z⟩ := a
        dsimp only at e1 h
        obtain ⟨rfl, z0, e2, e3, hf⟩ := e1
        obtain ⟨C, T, N, hcl, h9, hj, hN, -, -, -, -, -⟩ := tF_sp hq
        have hne : q.1 ≠ 99 ∧ q.1 ≠ 100 ∧ q.1 ≠ 110 ∧ q.1 ≠ 120 := by omega
        have hz : z = (z.toNat : Int) := nat_of z0
        have e4 : (wS w (z.toNat : Int)).1 = q.1 := by rw [← hz]; exact e2
        subst e3
        have hq2 : tF (yO Y) idx = some ((wS w (z.toNat : Int)).1, q.2) := by rw [e4]; exact hq
        by_cases ht : gTg (gFt q.1 q.2) = 2
        · rw [if_pos ht] at h
          split at h
          · rename_i hv
            cases h
            intro hi
            obtain ⟨-, z1⟩ := kind_lt hss hi.2.2 e2 hne
            have hk : z.toNat < w.1 := by omega
            refine ⟨⟨hi.1, fun u hu => hi.2.1 u (by simp [hu]), ?_⟩, Nat.le_refl _, Nat.le_refl _, ?_⟩
            · dsimp only
              rw [hz]
              exact gOk_P hi.2.2 hk hv
            · intro p e R s mm args below meth c H locs cells slots arr Q hE hA hH hc hs kk
              have e0 : ∀ n : Nat, n + ((wPut w z q.2 zv).1 - w.1) = n := fun n => by show n + (w.1 - w.1) = n; omega
              have e0' : ∀ n : Nat, n + ((wPut w z q.2 zv).2.1 - w.2.1) = n := fun n => by show n + (w.2.1 - w.2.1) = n; omega
              dsimp only at kk
              rw [e0, e0'] at kk
              rw [List.map_cons, List.map_cons, gC_r z0, ht]
              refine g_putf hE hA (w' := wPut w z q.2 zv) (m' := m) (j := q.2) (idx := idx) hk rfl hq2 rfl ?_ ?_ (by rw [e4]; exact hf) (by rw [e4]; exact (fits_ref ht zv).1) (by rw [e4]; exact (fits_ref ht zv).2) hd (fun H1 locs1 hA1 => kk H1 locs1 arr hA1 hH)
              · intro i _ hne
                refine gE_row rfl (fun _ => rfl) (fun j => ?_)
                show gU w.2.2.2 z q.2 zv i j = _
                unfold gU
                rw [if_neg (by omega)]
                rfl
              · intro i hi2
                simp only [gFv]
                have eS : wS (wPut w z q.2 zv) (z.toNat : Int) = wS w (z.toNat : Int) := rfl
                have eP : wP (wPut w z q.2 zv) (z.toNat : Int) i = if i = q.2 then zv else wP w (z.toNat : Int) i := by
                  show gU w.2.2.2 z q.2 zv _ _ = _
                  unfold gU
                  by_cases e : i = q.2
                  · rw [if_pos ⟨hz.symm, by rw [e]⟩, if_pos e]
                  · rw [if_neg (by omega), if_neg e]; rfl
                rw [eS, eP]
                by_cases e : i = q.2
                · subst e
                  rw [if_pos rfl, if_pos rfl, e4, ht]
                  simp
                · rw [if_neg e, if_neg e]
          · cases h
        · rw [if_neg ht] at h
          have main : ∀ y : gX, y = (pc + 3, ls, st', w, gU m z q.2 zv) → (gFt q.1 q.2 = .boolean → zv = 0 ∨ zv = 1) → gGo l ss sm sp cA dC dI B sa Y pc ls ((gTg (gFt q.1 q.2), zv) :: (2, z) :: st') w m y := by
            intro y hy hbz
            subst hy
            intro hi
            obtain ⟨-, z1⟩ := kind_lt hss hi.2.2 e2 hne
            have hk : z.toNat < w.1 := by omega
            have hvv := hi.2.1 (gTg (gFt q.1 q.2), zv) (by simp)
            have hT : okT (gFt q.1 q.2) zv := by
              rcases gFt_ty h9 (by rw [← hN]; exact hj) ht with r | r | r
              · rw [r] at hvv ⊢; exact hvv
              · rw [r] at hvv ⊢; exact hvv
              · have := hbz r
                rw [r]; exact this
            refine ⟨⟨hi.1, fun u hu => hi.2.1 u (by simp [hu]), ?_⟩, Nat.le_refl _, Nat.le_refl _, ?_⟩
            · dsimp only
              rw [hz]
              refine gOk_U hi.2.2 hk (fun j hj2 => ?_)
              rw [e4, if_pos h9]
              have : j = q.2 := by omega
              rw [this]; exact hT
            · intro p e R s mm args below meth c H locs cells slots arr Q hE hA hH hc hs kk
              dsimp only at kk
              rw [Nat.sub_self, Nat.add_zero, Nat.sub_self, Nat.add_zero] at kk
              rw [List.map_cons, List.map_cons, gC_r z0]
              have nf := narrow_ty (B := B) (sa := sa) hT ht (gFt_ty h9 (by rw [← hN]; exact hj) ht)
              refine g_putf hE hA (w' := w) (m' := gU m z q.2 zv) (j := q.2) (idx := idx) hk rfl hq2 rfl ?_ ?_ (by rw [e4]; exact hf) (by rw [e4]; exact nf.1) (by rw [e4]; exact nf.2) hd (fun H1 locs1 hA1 => kk H1 locs1 arr hA1 hH)
              · intro i _ hne
                refine gE_row rfl (fun j => ?_) (fun _ => rfl)
                unfold gU
                rw [if_neg (by omega)]
              · intro i hi2
                simp only [gFv]
                have eM : gU m z q.2 zv (z.toNat : Int) i = if i = q.2 then zv else m (z.toNat : Int) i := by
                  unfold gU
                  by_cases e : i = q.2
                  · rw [if_pos ⟨hz.symm, by rw [e]⟩, if_pos e]
                  · rw [if_neg (by omega), if_neg e]
                rw [eM]
                by_cases e : i = q.2
                · subst e
                  rw [if_pos rfl, if_pos rfl, e4, if_neg ht]
                · rw [if_neg e, if_neg e]
          split at h
          · rename_i hb
            split at h
            · rename_i hv
              exact main x (Option.some.inj h).symm (fun _ => hv)
            · cases h
          · rename_i hb
            exact main x (Option.some.inj h).symm (fun q => absurd q hb)
      · cases h
    · cases h
  · cases h
/-- a row's cell -/
theorem gE_k {kd : Nat} {k : Nat} (h : (wS w (k : Int)).1 = kd) (hk : kd = 100 ∨ kd = 101 ∨ kd = 102) : gE cA B sa w m k = .inl (cA kd, (wS w k).2, gArr B kd (m k)) := by
  rw [gE_arr (by omega), h]
  congr 3
  unfold gRw
  rw [if_neg (by omega)]
theorem gArr_i (kd : Nat) (row : Int → Int) (h : kd = 100 ∨ kd = 102) : gArr B kd row = .inl (fun j => Int32.ofInt (row j)) := by
  unfold gArr
  rw [if_neg (by omega), if_neg (by omega)]
theorem gArr_l (row : Int → Int) : gArr B 101 row = .inr (.inl (fun j => Int64.ofInt (row j))) := rfl
theorem gE_r {k : Nat} (h : (wS w (k : Int)).1 = 103 ∨ (wS w (k : Int)).1 = 104) : gE cA B sa w m k = .inl (cA (wS w k).1, (wS w k).2, .inr (.inr (.inr (.inr (fun j => if 0 ≤ wP w k j then some (B + (wP w k j).toNat) else none))))) := by
  rw [gE_arr (by omega)]
  congr 3
  unfold gArr gRw
  rw [if_neg (by omega), if_pos h, if_pos h]
theorem gE_of {k : Nat} {n : Nat} {e : va_E} (hk : k < w.1) (h : gE cA B sa w m k = e) : (gWd cA B sa w m)[k]? = some (B + k, e) := by rw [gWd_get hk, h]
theorem row_at (hss : gSs ss sm) (h : gOk ss sm sp w m) {a : Int} {kd : Nat} (ha : (wS w a).1 = kd) (h1 : 100 ≤ kd) (h2 : kd ≤ 110) : (0 ≤ a ∧ a < w.1 ∧ kd ≤ 104 ∧ (wS w a).2 ≤ 100000 ∧ ∀ j : Int, 0 ≤ j → okT (gEt kd) (m a j)) ∨ (a < -1 ∧ (kd = 100 ∨ kd = 110) ∧ (ss a).1 = kd ∧ (ss a).2 = (wS w a).2 ∧ (wS w a).2 ≤ 100000 ∧ ∀ j : Int, m a j = sm a j ∧ okI (m a j)) := by
  rcases gOk_lt h (a := a) (by omega) with q | q
  · left
    have k0 := h.1 a.toNat (by omega)
    rw [← nat_of q.1] at k0
    have k1 := k0.1
    have k2 := k0.2.1
    rw [ha] at k1 k2
    refine ⟨q.1, q.2, by omega, by omega, fun j hj => ?_⟩
    have := k2 j.toNat
    rw [if_neg (by omega), ← nat_of hj] at this
    exact this
  · right
    have s3 := h.2.2.1 a q
    have s4 := hss a q
    refine ⟨q, ?_, ?_, ?_, ?_, fun j => ⟨s3.2.1 j, ?_⟩⟩
    · rw [s3.1] at ha; omega
    · rw [← s3.1]; exact ha
    · rw [s3.1]
    · rw [s3.1]; exact s4.2.1
    · rw [s3.2.1 j]; exact s4.2.2 j
theorem toNat_i {i : Int} (h0 : 0 ≤ i) : ((i.toNat : Nat) : Int) = i := (nat_of h0).symm
theorem sd_iald (hss : gSs ss sm) (hd : decode (yC Y) pc = .ok (.iaload, 1)) (h : xAl pc 100 0 ls st w m = some x) : gGo l ss sm sp cA dC dI B sa Y pc ls st w m x := by
  unfold xAl at h
  split at h
  · rename_i i a st'
    split at h
    · rename_i e1
      obtain ⟨ti, zi⟩ := i
      obtain ⟨ta, z⟩ := a
      dsimp only at e1
      obtain ⟨rfl, rfl, e3, e4, e5⟩ := e1
      cases h
      refine gGo.of (fun q1 q2 q3 => ⟨q1, fun u hu => ?_⟩) (fun hi hE hA hH kk => ?_)
      · rcases List.mem_cons.mp hu with rfl | hu
        · rcases row_at hss q3 e3 (by omega) (by omega) with ⟨-, -, -, -, r⟩ | ⟨-, -, -, -, -, r⟩
          · exact r zi e4
          · exact (r zi).2
        · exact q2 u (by simp [hu])
      · have oi := okV_t0 (hi.2.1 (0, zi) (by simp)) rfl
        have kk := kk _ hH
        rw [List.map_cons, List.map_cons, gC_i]
        rcases row_at hss hi.2.2 e3 (by omega) (by omega) with ⟨z0, z1, -, -, r⟩ | ⟨z1, -, r1, r2, -, r⟩
        · have hk : z.toNat < w.1 := by omega
          have hcell := gE_of (cA := cA) (B := B) (sa := sa) (n := 0) hk (gE_k (m := m) (kd := 100) (by rw [toNat_i z0]; exact e3) (Or.inl rfl))
          rw [gArr_i 100 _ (Or.inl rfl), toNat_i z0] at hcell
          rw [gC_r z0]
          refine va_iald hE.1 hE.2.1 hE.2.2.2.2.2.2.2.2.1 hA.1 z.toNat 0 hcell rfl (in32 oi e4 e5) hd ?_
          rw [ix32 oi, toNat_i e4]
          exact kk
        · have f1 := hE.2.2.2.2.2.2.2.2.2.1.1 z z1 r1
          rw [gC_s z1]
          refine va_ti hE.1 hE.2.1 f1 hA.2.2.1 (in32 oi e4 (by rw [r2]; exact e5)) rfl hd ?_
          rw [ix32 oi, toNat_i e4, ← (r zi).1]
          exact kk
    · cases h
  · cases h
theorem sd_lald (hss : gSs ss sm) (hd : decode (yC Y) pc = .ok (.laload, 1)) (h : xAl pc 101 1 ls st w m = some x) : gGo l ss sm sp cA dC dI B sa Y pc ls st w m x := by
  unfold xAl at h
  split at h
  · rename_i i a st'
    split at h
    · rename_i e1
      obtain ⟨ti, zi⟩ := i
      obtain ⟨ta, z⟩ := a
      dsimp only at e1
      obtain ⟨rfl, rfl, e3, e4, e5⟩ := e1
      cases h
      refine gGo.of (fun q1 q2 q3 => ⟨q1, fun u hu => ?_⟩) (fun hi hE hA hH kk => ?_)
      · rcases List.mem_cons.mp hu with rfl | hu
        · rcases row_at hss q3 e3 (by omega) (by omega) with ⟨-, -, -, -, r⟩ | ⟨-, r, -⟩
          · exact r zi e4
          · omega
        · exact q2 u (by simp [hu])
      · have oi := okV_t0 (hi.2.1 (0, zi) (by simp)) rfl
        have kk := kk _ hH
        rw [List.map_cons, List.map_cons, gC_i]
        rcases row_at hss hi.2.2 e3 (by omega) (by omega) with ⟨z0, z1, -, -, r⟩ | ⟨-, r, -⟩
        · have hk : z.toNat < w.1 := by omega
          have hcell := gE_of (cA := cA) (B := B) (sa := sa) (n := 0) hk (gE_k (m := m) (kd := 101) (by rw [toNat_i z0]; exact e3) (Or.inr (Or.inl rfl)))
          rw [gArr_l, toNat_i z0] at hcell
          rw [gC_r z0]
          refine va_lald hE.1 hE.2.1 hE.2.2.2.2.2.2.2.2.1 hA.1 z.toNat 1 hcell rfl (in32 oi e4 e5) hd ?_
          rw [ix32 oi, toNat_i e4]
          exact kk
        · omega
    · cases h
  · cases h
theorem sd_bald (hss : gSs ss sm) (hd : decode (yC Y) pc = .ok (.baload, 1)) (h : xBl pc ls st w m = some x) : gGo l ss sm sp cA dC dI B sa Y pc ls st w m x := by
  unfold xBl at h
  split at h
  · rename_i i a st'
    split at h
    · rename_i e1
      obtain ⟨ti, zi⟩ := i
      obtain ⟨ta, z⟩ := a
      dsimp only at e1
      obtain ⟨rfl, rfl, e3, e4, e5⟩ := e1
      cases h
      refine gGo.of (fun q1 q2 q3 => ⟨q1, fun u hu => ?_⟩) (fun hi hE hA hH kk => ?_)
      · rcases List.mem_cons.mp hu with rfl | hu
        · rcases e3 with e3 | e3
          · rcases row_at hss q3 e3 (by omega) (by omega) with ⟨-, -, -, -, r⟩ | ⟨-, r, -⟩
            · have := r zi e4
              rcases this with r | r <;> (show okI _) <;> rw [r] <;> exact ⟨by decide, by decide⟩
            · omega
          · rcases row_at hss q3 e3 (by omega) (by omega) with ⟨-, -, r, -, -⟩ | ⟨-, -, -, -, -, r⟩
            · omega
            · exact (r zi).2
        · exact q2 u (by simp [hu])
      · have oi := okV_t0 (hi.2.1 (0, zi) (by simp)) rfl
        have kk := kk _ hH
        rw [List.map_cons, List.map_cons, gC_i]
        rcases e3 with e3 | e3
        · rcases row_at hss hi.2.2 e3 (by omega) (by omega) with ⟨z0, z1, -, -, r⟩ | ⟨-, r, -⟩
          · have hk : z.toNat < w.1 := by omega
            have hcell := gE_of (cA := cA) (B := B) (sa := sa) (n := 0) hk (gE_k (m := m) (kd := 102) (by rw [toNat_i z0]; exact e3) (Or.inr (Or.inr rfl)))
            rw [gArr_i 102 _ (Or.inr rfl), toNat_i z0] at hcell
            rw [gC_r z0]
            refine va_zald hE.1 hE.2.1 hE.2.2.2.2.2.2.2.2.1 hA.1 z.toNat 2 hcell rfl (in32 oi e4 e5) hd ?_
            rw [ix32 oi, toNat_i e4]
            exact kk
          · omega
        · rcases row_at hss hi.2.2 e3 (by omega) (by omega) with ⟨-, -, r, -, -⟩ | ⟨z1, -, r1, r2, -, r⟩
          · omega
          · have f1 := hE.2.2.2.2.2.2.2.2.2.1.2.1 z z1 r1
            rw [gC_s z1]
            refine va_tb hE.1 hE.2.1 f1 hA.2.2.1 (in32 oi e4 (by rw [r2]; exact e5)) rfl hd ?_
            rw [ix32 oi, toNat_i e4, ← (r zi).1]
            exact kk
    · cases h
  · cases h
theorem sd_aald (hss : gSs ss sm) (hd : decode (yC Y) pc = .ok (.aaload, 1)) (h : xAa pc ls st w m = some x) : gGo l ss sm sp cA dC dI B sa Y pc ls st w m x := by
  unfold xAa at h
  split at h
  · rename_i i a st'
    split at h
    · rename_i e1
      obtain ⟨ti, zi⟩ := i
      obtain ⟨ta, z⟩ := a
      dsimp only at e1
      obtain ⟨rfl, rfl, e3, e4, e5⟩ := e1
      cases h
      refine gGo.of (fun q1 q2 q3 => ⟨q1, fun u hu => ?_⟩) (fun {p e R s mm args below meth c H locs cells slots arr Q} hi hE hA hH kk => ?_)
      · rcases List.mem_cons.mp hu with rfl | hu
        · exact trivial
        · exact q2 u (by simp [hu])
      · have oi := okV_t0 (hi.2.1 (0, zi) (by simp)) rfl
        have kk := kk _ hH
        rw [List.map_cons, List.map_cons, gC_i]
        rcases gOk_lt hi.2.2 (a := z) (by omega) with q | q
        · have z0 := q.1
          have hk : z.toNat < w.1 := by omega
          have e6 : (wS w (z.toNat : Int)).1 = 103 ∨ (wS w (z.toNat : Int)).1 = 104 := by rw [toNat_i z0]; exact e3
          have hcell := gE_of (cA := cA) (B := B) (sa := sa) (n := 0) hk (gE_r (m := m) e6)
          rw [toNat_i z0] at hcell
          have hP := (hi.2.2.1 z.toNat hk).2.2 zi.toNat
          rw [toNat_i z0, toNat_i e4] at hP
          rw [gC_r z0]
          have hK := hE.2.2.2.2.2.2.2.2.1
          have hin := in32 oi e4 e5
          have hlt : (Int32.ofInt zi).toNatClampNeg < (wS w z).2 := Nat.not_le.mp fun q => hin (Or.inr q)
          have ev : va_rf (if 0 ≤ wP w z zi then some (B + (wP w z zi).toNat) else none) = gC B sa (2, wP w z zi) := by
            by_cases c : 0 ≤ wP w z zi
            · rw [if_pos c, gC_r c]; rfl
            · rw [if_neg c]
              have c2 : wP w z zi = -1 := by omega
              rw [c2]; rfl
          have hc := hA.1 z.toNat _ hcell
          have hty : ∃ ty : FieldType, ty.isReference = true ∧ ArrOfT s (cA (wS w z).1) ty := by
            rcases e3 with e3 | e3
            · exact ⟨.array .int, rfl, by rw [e3]; exact (hK.2 3 (cA 103, .array .int) rfl).1⟩
            · exact ⟨.array .long, rfl, by rw [e3]; exact (hK.2 4 (cA 104, .array .long) rfl).1⟩
          obtain ⟨ty, t1, t2⟩ := hty
          refine W.aald (v := gC B sa (2, wP w z zi)) (ty := ty) hE.1 hE.2.1 hc (t2 _ (fun j => va_rf (if 0 ≤ wP w z j then some (B + (wP w z j).toNat) else none))) t1 (fun q => by cases q) (by show ¬ (_ ∨ (arrV _ _ _).slots.size ≤ _); rw [arrV_size]; exact hin) ?_ rfl rfl hd kk
          show (arrV _ _ _).slots[_]? = _
          rw [arrV_read _ _ hlt, ix32 oi]
          show some (va_rf (if 0 ≤ wP w z ((zi.toNat : Nat) : Int) then some (B + (wP w z ((zi.toNat : Nat) : Int)).toNat) else none)) = _
          rw [toNat_i e4, ev]
        · have := (hss z q).1
          rw [← (hi.2.2.2.2.1 z q).1] at this
          omega
    · cases h
  · cases h
theorem sd_len (hss : gSs ss sm) (hd : decode (yC Y) pc = .ok (.arraylength, 1)) (h : xLen pc ls st w m = some x) : gGo l ss sm sp cA dC dI B sa Y pc ls st w m x := by
  unfold xLen at h
  split at h
  · rename_i a st'
    split at h
    · rename_i e1
      obtain ⟨ta, z⟩ := a
      dsimp only at e1
      obtain ⟨rfl, e3, e4⟩ := e1
      cases h
      refine gGo.of (fun q1 q2 q3 => ⟨q1, fun u hu => ?_⟩) (fun hi hE hA hH kk => ?_)
      · rcases List.mem_cons.mp hu with rfl | hu
        · have : (wS w z).2 ≤ 100000 := by
            rcases row_at hss q3 (a := z) rfl e3 e4 with ⟨-, -, -, r, -⟩ | ⟨-, -, -, -, r, -⟩ <;> exact r
          exact ⟨by dsimp only; omega, by dsimp only; omega⟩
        · exact q2 u (by simp [hu])
      · have kk := kk _ hH
        rw [List.map_cons]
        rcases row_at hss hi.2.2 (a := z) rfl e3 e4 with ⟨z0, z1, r1, r2, -⟩ | ⟨z1, r0, r1, r2, -, -⟩
        · have hk : z.toNat < w.1 := by omega
          have hcell := gE_of (cA := cA) (B := B) (sa := sa) (m := m) (n := 0) hk (gE_arr (by rw [toNat_i z0]; exact e3))
          rw [toNat_i z0] at hcell
          rw [gC_r z0]
          exact va_alen hE.1 hE.2.1 hE.2.2.2.2.2.2.2.2.1 hA.1 z.toNat ((wS w z).1 - 100) hcell (gTys_at e3 r1 (by omega)) (v := Int32.ofInt ((wS w z).2 : Int)) rfl hd kk
        · rw [gC_s z1]
          rcases r0 with r0 | r0
          · have f1 := hE.2.2.2.2.2.2.2.2.2.1.1 z z1 (by rw [r1, r0])
            exact va_tlen hE.1 hE.2.1 f1 hA.2.2.1 (v := Int32.ofInt ((wS w z).2 : Int)) (by rw [r2]; rfl) hd kk
          · have f1 := hE.2.2.2.2.2.2.2.2.2.1.2.1 z z1 (by rw [r1, r0])
            exact va_tlen hE.1 hE.2.1 f1 hA.2.2.1 (v := Int32.ofInt ((wS w z).2 : Int)) (by rw [r2]; rfl) hd kk
    · cases h
  · cases h
/-- a row's place is written -/
theorem g_astore {R : Room} {s : State} {H H1 : Heap} {locs : List Loc} {cells slots : Nat} (hA : gAt cA dC dI B sa R s w m H locs cells slots) {k kd : Nat} (hk : k < w.1) (hkd : kd = 100 ∨ kd = 101 ∨ kd = 102) (he : (wS w (k : Int)).1 = kd) {i : Nat} {v : Int} {n : Nat}
    (e : H1[B + k]? = some (vp_cell (cA kd) ((wS w k).2, gArr B kd (fun j => if j = (i : Int) then v else m k j)))) (z : H1.size = H.size) (oq : ∀ q, q ≠ B + k → H1[q]? = H[q]?) : gAt cA dC dI B sa R s w (gU m k i v) H1 (locs ++ [⟨B + k, n⟩]) cells slots := by
  refine ⟨?_, by rw [z]; exact hA.2.1, hA.2.2.1.put z oq (Nat.le_add_right _ _), hA.2.2.2⟩
  have hcell := gE_of (cA := cA) (B := B) (sa := sa) (n := 0) hk (gE_k (m := m) he hkd)
  rw [← gWd_set (cA := cA) (B := B) (sa := sa) (m := m) (m' := gU m k i v) hk rfl (fun j _ hne => gE_row rfl (fun j' => by unfold gU; rw [if_neg (by omega)]) (fun _ => rfl))]
  refine hA.1.set gWd_D hcell ?_ oq
  rw [gE_k (m := gU m k i v) he hkd]
  have e2 : gU m k i v k = fun j => if j = (i : Int) then v else m k j := by
    funext j
    unfold gU
    simp
  rw [e2]
  exact e
theorem sd_iast (hss : gSs ss sm) (hd : decode (yC Y) pc = .ok (.iastore, 1)) (h : xAs pc 100 0 ls st w m = some x) : gGo l ss sm sp cA dC dI B sa Y pc ls st w m x := by
  unfold xAs at h
  split at h
  · rename_i v i a st'
    split at h
    · rename_i e1
      obtain ⟨tv, zv⟩ := v
      obtain ⟨ti, zi⟩ := i
      obtain ⟨ta, z⟩ := a
      dsimp only at e1
      obtain ⟨rfl, rfl, rfl, z0, e3, e4, e5, -⟩ := e1
      cases h
      intro hi
      have ov := okV_t0 (hi.2.1 (0, zv) (by simp)) rfl
      have oi := okV_t0 (hi.2.1 (0, zi) (by simp)) rfl
      obtain ⟨-, z1⟩ : 0 ≤ z ∧ z < w.1 := by
        rcases gOk_lt hi.2.2 (a := z) (by omega) with q | q
        · exact q
        · omega
      have hk : z.toNat < w.1 := by omega
      have hz := toNat_i z0
      have e6 : (wS w (z.toNat : Int)).1 = 100 := by rw [hz]; exact e3
      refine ⟨⟨hi.1, fun u hu => hi.2.1 u (by simp [hu]), ?_⟩, Nat.le_refl _, Nat.le_refl _, ?_⟩
      · dsimp only
        rw [← hz]
        refine gOk_U hi.2.2 hk (fun j hj2 => ?_)
        rw [e6]
        exact ov
      · intro p e R s mm args below meth c H locs cells slots arr Q hE hA hH hc hs kk
        dsimp only at kk
        rw [Nat.sub_self, Nat.add_zero, Nat.sub_self, Nat.add_zero] at kk
        rw [List.map_cons, List.map_cons, List.map_cons, gC_r z0, gC_i, gC_i]
        have hcell := gE_of (cA := cA) (B := B) (sa := sa) (n := 0) hk (gE_k (m := m) (kd := 100) e6 (Or.inl rfl))
        have hPk := hA.1 z.toNat _ hcell
        rw [gArr_i 100 _ (Or.inl rfl)] at hPk
        refine W.iast hE.1 hE.2.1 hPk ((hE.2.2.2.2.2.2.2.2.1.2 0 (cA 100, .int) rfl).1 _ _) (fun q => by cases q) (by show ¬ (_ ∨ (arrV _ _ _).slots.size ≤ _); rw [arrV_size]; exact in32 oi e4 (by rw [hz]; exact e5)) rfl rfl hd fun H1 e z' oq => ?_
        have := g_astore (v := zv) (i := zi.toNat) (n := (Int32.ofInt zi).toNatClampNeg) hA hk (Or.inl rfl) e6 (H1 := H1) ?_ z' oq
        · rw [hz, toNat_i e4] at this
          exact kk H1 _ arr this hH
        · rw [e, gArr_i 100 _ (Or.inl rfl), vp_cell_i, vp_cell_i, arrV_store]
          congr 2
          funext q
          rw [ix32 oi]
          unfold updV
          by_cases hq : q = zi.toNat
          · rw [if_pos hq, if_pos (by omega)]
          · rw [if_neg hq, if_neg (by omega)]
    · cases h
  · cases h
theorem sd_last (hss : gSs ss sm) (hd : decode (yC Y) pc = .ok (.lastore, 1)) (h : xAs pc 101 1 ls st w m = some x) : gGo l ss sm sp cA dC dI B sa Y pc ls st w m x := by
  unfold xAs at h
  split at h
  · rename_i v i a st'
    split at h
    · rename_i e1
      obtain ⟨tv, zv⟩ := v
      obtain ⟨ti, zi⟩ := i
      obtain ⟨ta, z⟩ := a
      dsimp only at e1
      obtain ⟨rfl, rfl, rfl, z0, e3, e4, e5, -⟩ := e1
      cases h
      intro hi
      have ov := okV_t1 (hi.2.1 (1, zv) (by simp)) rfl
      have oi := okV_t0 (hi.2.1 (0, zi) (by simp)) rfl
      obtain ⟨-, z1⟩ : 0 ≤ z ∧ z < w.1 := by
        rcases gOk_lt hi.2.2 (a := z) (by omega) with q | q
        · exact q
        · omega
      have hk : z.toNat < w.1 := by omega
      have hz := toNat_i z0
      have e6 : (wS w (z.toNat : Int)).1 = 101 := by rw [hz]; exact e3
      refine ⟨⟨hi.1, fun u hu => hi.2.1 u (by simp [hu]), ?_⟩, Nat.le_refl _, Nat.le_refl _, ?_⟩
      · dsimp only
        rw [← hz]
        refine gOk_U hi.2.2 hk (fun j hj2 => ?_)
        rw [e6]
        exact ov
      · intro p e R s mm args below meth c H locs cells slots arr Q hE hA hH hc hs kk
        dsimp only at kk
        rw [Nat.sub_self, Nat.add_zero, Nat.sub_self, Nat.add_zero] at kk
        rw [List.map_cons, List.map_cons, List.map_cons, gC_r z0, gC_i, gC_l]
        have hcell := gE_of (cA := cA) (B := B) (sa := sa) (n := 0) hk (gE_k (m := m) (kd := 101) e6 (Or.inr (Or.inl rfl)))
        have hPk := hA.1 z.toNat _ hcell
        rw [gArr_l] at hPk
        refine W.last hE.1 hE.2.1 hPk ((hE.2.2.2.2.2.2.2.2.1.2 1 (cA 101, .long) rfl).1 _ _) (fun q => by cases q) (by show ¬ (_ ∨ (arrV _ _ _).slots.size ≤ _); rw [arrV_size]; exact in32 oi e4 (by rw [hz]; exact e5)) rfl rfl hd fun H1 e z' oq => ?_
        have := g_astore (v := zv) (i := zi.toNat) (n := (Int32.ofInt zi).toNatClampNeg) hA hk (Or.inr (Or.inl rfl)) e6 (H1 := H1) ?_ z' oq
        · rw [hz, toNat_i e4] at this
          exact kk H1 _ arr this hH
        · rw [e, gArr_l, vp_cell_l, vp_cell_l, arrV_store]
          congr 2
          funext q
          rw [ix32 oi]
          unfold updV
          by_cases hq : q = zi.toNat
          · rw [if_pos hq, if_pos (by omega)]
          · rw [if_neg hq, if_neg (by omega)]
    · cases h
  · cases h
theorem sd_bast (hss : gSs ss sm) (hd : decode (yC Y) pc = .ok (.bastore, 1)) (h : xAs pc 102 0 ls st w m = some x) : gGo l ss sm sp cA dC dI B sa Y pc ls st w m x := by
  unfold xAs at h
  split at h
  · rename_i v i a st'
    split at h
    · rename_i e1
      obtain ⟨tv, zv⟩ := v
      obtain ⟨ti, zi⟩ := i
      obtain ⟨ta, z⟩ := a
      dsimp only at e1
      obtain ⟨rfl, rfl, rfl, z0, e3, e4, e5, hb⟩ := e1
      have hb := hb rfl
      cases h
      intro hi
      have oi := okV_t0 (hi.2.1 (0, zi) (by simp)) rfl
      obtain ⟨-, z1⟩ : 0 ≤ z ∧ z < w.1 := by
        rcases gOk_lt hi.2.2 (a := z) (by omega) with q | q
        · exact q
        · omega
      have hk : z.toNat < w.1 := by omega
      have hz := toNat_i z0
      have e6 : (wS w (z.toNat : Int)).1 = 102 := by rw [hz]; exact e3
      refine ⟨⟨hi.1, fun u hu => hi.2.1 u (by simp [hu]), ?_⟩, Nat.le_refl _, Nat.le_refl _, ?_⟩
      · dsimp only
        rw [← hz]
        refine gOk_U hi.2.2 hk (fun j hj2 => ?_)
        rw [e6]
        exact hb
      · intro p e R s mm args below meth c H locs cells slots arr Q hE hA hH hc hs kk
        dsimp only at kk
        rw [Nat.sub_self, Nat.add_zero, Nat.sub_self, Nat.add_zero] at kk
        rw [List.map_cons, List.map_cons, List.map_cons, gC_r z0, gC_i, gC_i]
        have hcell := gE_of (cA := cA) (B := B) (sa := sa) (n := 0) hk (gE_k (m := m) (kd := 102) e6 (Or.inr (Or.inr rfl)))
        have hPk := hA.1 z.toNat _ hcell
        rw [gArr_i 102 _ (Or.inr rfl)] at hPk
        refine W.zast hE.1 hE.2.1 hPk ((hE.2.2.2.2.2.2.2.2.1.2 2 (cA 102, .boolean) rfl).1 _ _) (fun q => by cases q) (by show ¬ (_ ∨ (arrV _ _ _).slots.size ≤ _); rw [arrV_size]; exact in32 oi e4 (by rw [hz]; exact e5)) rfl rfl hd fun H1 e z' oq => ?_
        have := g_astore (v := zv) (i := zi.toNat) (n := (Int32.ofInt zi).toNatClampNeg) hA hk (Or.inr (Or.inr rfl)) e6 (H1 := H1) ?_ z' oq
        · rw [hz, toNat_i e4] at this
          exact kk H1 _ arr this hH
        · have en : narrow .boolean (.int (Int32.ofInt zv)) = .int (Int32.ofInt zv) := by rcases hb with rfl | rfl <;> rfl
          rw [e, en, gArr_i 102 _ (Or.inr rfl), vp_cell_i, vp_cell_i, arrV_store]
          congr 2
          funext q
          rw [ix32 oi]
          unfold updV
          by_cases hq : q = zi.toNat
          · rw [if_pos hq, if_pos (by omega)]
          · rw [if_neg hq, if_neg (by omega)]
    · cases h
  · cases h
theorem tG_sp {o i : Nat} {v : gV} (h : tG o i = some v) : ∃ q ∈ gSt, q.2.2.2 = v ∧ (Cond.fieldLink (gCn o) i q.1 q.2.1 q.2.2.1 ∈ gAW ∨ Cond.fieldLinkNest (gCn o) i q.1 q.2.1 q.2.2.1 "LegHedge" ∈ gNW) := by
  obtain ⟨p, hp⟩ := tG_ck h
  unfold ckG at hp
  split at hp
  · rename_i p
    obtain ⟨q, h1, h2⟩ := List.any_eq_true.mp hp
    simp only [Bool.and_eq_true, Bool.or_eq_true, decide_eq_true_eq] at h2
    refine ⟨q, h1, h2.1, ?_⟩
    rcases h2.2 with r | r
    · exact Or.inl (ckT_ok r)
    · exact Or.inr r
  · cases hp
theorem gSt_ok : ∀ q ∈ gSt, q.2.2.2.1 = 4 ∨ q.2.2.2.1 = 2 ∨ (q.2.2.2.1 = 0 ∧ -128 ≤ q.2.2.2.2 ∧ q.2.2.2.2 ≤ 128) := by decide +kernel
theorem gSt_4 : ∀ q ∈ gSt, q.2.2.2.1 = 4 → q.2.2.2.2 = 0 := by decide +kernel
theorem sd_gs {idx : Nat} (hd : decode (yC Y) pc = .ok (.getstatic idx, 3)) (h : xGs Y pc idx ls st w m = some x) : gGo l ss sm sp cA dC dI B sa Y pc ls st w m x := by
  unfold xGs at h
  split at h
  · rename_i v hv
    obtain ⟨q, hq, hqv, hlink⟩ := tG_sp hv
    have main : ∀ u : gV, okV u → (gOk ss sm sp w m → (if v.1 = 4 then (2, sp (-1) v.2) else v) = u) → gGo l ss sm sp cA dC dI B sa Y pc ls st w m (pc + 3, ls, u :: st, w, m) := by
      intro u hu hvu
      refine gGo.push (fun _ => hu) (fun hi hE hA kk => ?_)
      have f4 := hE.2.2.2.2.2.2.2.2.2.1.2.2.2.1 q hq
      rw [show (if q.2.2.2.1 = 4 then ((2, sp (-1) q.2.2.2.2) : gV) else q.2.2.2) = u by rw [hqv]; exact hvu hi.2.2] at f4
      rcases hlink with r | r
      · exact va_gets hE.1 hE.2.1 f4 hA.2.2.1 hE.2.2.2.1 (hE.2.2.2.2.1 _ r) (fun _ h => h) hd kk
      · have nw := hE.2.2.2.2.2.2.2.2.2.1.2.2.2.2.2.1 _ r
        exact va_getsN hE.1 hE.2.1 f4 hA.2.2.1 hE.2.2.2.1 (va_Nw.use rfl nw) (fun _ h => h) hd kk
    have ok := gSt_ok q hq
    rw [hqv] at ok
    split at h
    · rename_i h4
      cases h
      have e0 := gSt_4 q hq (by rw [hqv]; exact h4)
      rw [hqv] at e0
      refine main _ trivial (fun g => ?_)
      rw [if_pos h4, e0, g.2.2.2]
    · rename_i h4
      cases h
      refine main _ ?_ (fun _ => by rw [if_neg h4])
      obtain ⟨t, z⟩ := v
      dsimp only at ok h4
      rcases ok with r | r | ⟨r, r2⟩
      · exact absurd r h4
      · subst r; exact trivial
      · subst r
        exact okV0 ⟨by omega, by omega⟩
  · cases h
end SND3
