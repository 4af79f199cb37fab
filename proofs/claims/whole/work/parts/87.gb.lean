/-! PURE: a good book stays one. -/
section GBS
variable {q r v t c n g j k e s o u x y : Int} {b b' b1 kb : Bk}
theorem TryO_z {t : Int × Bk} (h : TryO t = 0) : t.1 = 0 ∧ Fine t.2 := by
  unfold TryO at h
  by_cases h1 : t.1 = 0
  · rw [if_pos h1] at h
    by_cases h2 : Fine t.2
    · exact ⟨h1, h2⟩
    · rw [cif_f h2] at h
      omega
  · rw [if_neg h1] at h
    exact absurd h h1
theorem GB_ground (hG : GB b) : GB (aN b (tGround b g c v)) := by
  by_cases ht : TryO (tGround b g c v) = 0
  · rw [aN_1 ht]
    obtain ⟨h1, h2⟩ := TryO_z ht
    obtain ⟨⟨⟨hg, hm, hO, hl, hp⟩, hw, hz, hse, hv⟩, hf⟩ := hG
    unfold tGround at h1 h2 ⊢
    by_cases p1 : (0 ≤ g ∧ g ≤ 4) ∧ (0 ≤ c ∧ c ≤ 5)
    · rw [if_pos p1] at h1 h2 ⊢
      by_cases p2 : lk lst c ≤ v ∧ v ≤ lk mst c
      · rw [if_pos p2] at h1 h2 ⊢
        exact ⟨⟨⟨WfG_put hg p1.2 p2, hm, hO, hl, hp⟩, hw, hz, hse, hv⟩, h2⟩
      · rw [if_neg p2] at h1
        simp at h1
    · rw [if_neg p1] at h1
      simp at h1
  · rw [aN_0 ht]
    exact hG
theorem GB_move (hG : GB b) : GB (aN b (tMove b u s v)) := by
  by_cases ht : TryO (tMove b u s v) = 0
  · rw [aN_1 ht]
    obtain ⟨h1, h2⟩ := TryO_z ht
    obtain ⟨⟨⟨hg, hm, hO, hl, hp⟩, hw, hz, hse, hv⟩, hf⟩ := hG
    unfold tMove at h1 h2 ⊢
    by_cases p1 : (-99 ≤ u ∧ u ≤ 99) ∧ (-9 ≤ s ∧ s ≤ 9) ∧ (1 ≤ v ∧ v ≤ 100)
    · rw [if_pos p1] at h1 h2 ⊢
      by_cases p2 : (b 1).1 < 8
      · rw [if_pos p2] at h1 h2 ⊢
        refine ⟨⟨⟨hg, WfM_new hm p1.1 p1.2.1 p1.2.2, hO, hl, hp⟩, fun j j0 j1 => ?_, hz, hse, hv⟩, h2⟩
        have j1' : j < (b 1).1 + 1 := j1
        have ee : (bSet b 1 (tPut (tPut (tPut (tGrow (b 1)) (b 1).1 0 u) (b 1).1 1 s) (b 1).1 2 v) 1).2 j 2 = if j = (b 1).1 ∧ (2 : Int) = 2 then v else if j = (b 1).1 ∧ (2 : Int) = 1 then s else if j = (b 1).1 ∧ (2 : Int) = 0 then u else (b 1).2 j 2 := rfl
        show 1 ≤ (bSet b 1 (tPut (tPut (tPut (tGrow (b 1)) (b 1).1 0 u) (b 1).1 1 s) (b 1).1 2 v) 1).2 j 2
        rw [ee]
        by_cases hj : j = (b 1).1
        · rw [if_pos ⟨hj, rfl⟩]
          exact p1.2.2.1
        · rw [if_neg (by omega), if_neg (by omega), if_neg (by omega)]
          exact hw j j0 (by omega)
      · rw [if_neg p2] at h1
        simp at h1
    · rw [if_neg p1] at h1
      simp at h1
  · rw [aN_0 ht]
    exact hG
theorem GB_offset (hG : GB b) : GB (aN b (tOffset b x y t q s v)) := by
  by_cases ht : TryO (tOffset b x y t q s v) = 0
  · rw [aN_1 ht]
    obtain ⟨h1, h2⟩ := TryO_z ht
    obtain ⟨⟨⟨hg, hm, hO, hl, hp⟩, hw, hz, hse, hv⟩, hf⟩ := hG
    unfold tOffset at h1 h2 ⊢
    by_cases p1 : (0 ≤ x ∧ x ≤ 4) ∧ (0 ≤ y ∧ y ≤ 4) ∧ x ≠ y
    · rw [if_pos p1] at h1 h2 ⊢
      by_cases p3 : (1 ≤ t ∧ t ≤ 9) ∧ (1 ≤ q ∧ q ≤ 9) ∧ (0 ≤ s ∧ s ≤ 1) ∧ (0 ≤ v ∧ v ≤ 100)
      · rw [if_pos p3] at h1 h2 ⊢
        by_cases p2 : (b 2).1 < 6
        · rw [if_pos p2] at h1 h2 ⊢
          exact ⟨⟨⟨hg, hm, WfO_new hO p1 p3, hl, hp⟩, hw, hz, hse, hv⟩, h2⟩
        · rw [if_neg p2] at h1
          simp at h1
      · rw [if_neg p3] at h1
        simp at h1
    · rw [if_neg p1] at h1
      simp at h1
  · rw [aN_0 ht]
    exact hG
theorem GB_trade (hG : GB b) (h3 : 0 ≤ (b 3).1) : GB (aN b (tTrade b g k e s q)) := by
  by_cases ht : TryO (tTrade b g k e s q) = 0
  · rw [aN_1 ht]
    obtain ⟨h1, h2⟩ := TryO_z ht
    obtain ⟨⟨⟨hg, hm, hO, hl, hp⟩, hw, hz, hse, hv⟩, hf⟩ := hG
    unfold tTrade at h1 h2 ⊢
    by_cases p1 : pBar g k e s q = 0
    · rw [if_pos p1] at h1 h2 ⊢
      have pb := pLeg_bd (b := b) (g := g) (k := k) (e := e) (s := s) h3
      by_cases p3 : pLeg b g k e s < 0
      · rw [if_pos p3] at h1 h2 ⊢
        by_cases p2 : (b 3).1 < 24
        · rw [if_pos p2] at h1 h2 ⊢
          refine ⟨⟨⟨hg, hm, hO, RLg_tr (RLg_new hl (pBar_ref p1).1) h3, hp⟩, hw, tr_nz h3 (fun r r0 r1 hr => ?_), hse, hv⟩, h2⟩
          have r1' : r < (b 3).1 + 1 := r1
          rw [tLegN_e, if_neg (by omega), if_neg (by omega), if_neg (by omega), if_neg (by omega)]
          exact hz r r0 (by omega)
        · rw [if_neg p2] at h1
          simp at h1
      · rw [if_neg p3] at h1 h2 ⊢
        exact ⟨⟨⟨hg, hm, hO, RLg_tr hl (by omega), hp⟩, hw, tr_nz (by omega) (fun r r0 r1 _ => hz r r0 r1), hse, hv⟩, h2⟩
    · rw [if_neg p1] at h1
      exact absurd h1 p1
  · rw [aN_0 ht]
    exact hG
theorem GB_still (hG : GB b) (h2 : 0 ≤ (b 2).1 ∧ (b 2).1 ≤ 6) : GB (s_still b x) := by
  unfold s_still
  by_cases h1 : 0 ≤ x ∧ x < (b 1).1
  · rw [if_pos h1]
    obtain ⟨⟨⟨hg, hm, hO, hl, hp⟩, hw, hz, hse, hv⟩, hf⟩ := hG
    refine ⟨⟨⟨hg, WfM_rem hm h1.1, hO, hl, hp⟩, fun j j0 j1 => ?_, hz, hse, hv⟩, Fine_still hf hg hO h2 h1⟩
    have j1' : j < (b 1).1 - 1 := j1
    have a := sg_bd (t := (b 1).1) (i := x) j0 (by omega)
    have e : (bSet b 1 (tRem (b 1) x) 1).2 j 2 = (b 1).2 (sg x j) 2 := rem_e
    rw [e]
    exact hw _ a.1 a.2
  · rw [if_neg h1]
    exact hG
theorem GB_unset (hG : GB b) (h2 : 0 ≤ (b 2).1 ∧ (b 2).1 ≤ 6) : GB (s_unset b x) := by
  unfold s_unset
  by_cases h1 : 0 ≤ x ∧ x < (b 2).1
  · rw [if_pos h1]
    obtain ⟨⟨⟨hg, hm, hO, hl, hp⟩, hw, hz, hse, hv⟩, hf⟩ := hG
    exact ⟨⟨⟨hg, hm, WfO_rem hO h1.1, hl, hp⟩, hw, hz, hse, hv⟩, Fine_unset hf hg hO h2 h1⟩
  · rw [if_neg h1]
    exact hG
theorem GB_see (hG : GB b) (hy : y ≤ 2147483647) : GB (s_see b x y) := by
  unfold s_see
  obtain ⟨⟨⟨hg, hm, hO, hl, hp⟩, hw, hz, hse, hv⟩, hf⟩ := hG
  by_cases h1 : x = -1
  · rw [if_pos h1]
    exact ⟨⟨⟨hg, hm, hO, hl, hp⟩, hw, hz, fun r r0 r1 => by have r1' : r < 0 := r1; omega, hv⟩, by rw [Fine_4]; exact hf⟩
  · rw [if_neg h1]
    by_cases h2 : (1 ≤ x ∧ x ≤ 300) ∧ 0 ≤ y ∧ (b 4).1 < 4
    · rw [if_pos h2]
      refine ⟨⟨⟨hg, hm, hO, hl, hp⟩, hw, hz, fun r r0 r1 => ?_, hv⟩, by rw [Fine_4]; exact hf⟩
      have r1' : r < (b 4).1 + 1 := r1
      have ee : ∀ c, (bSet b 4 (tPut (tPut (tGrow (b 4)) (b 4).1 0 x) (b 4).1 1 y) 4).2 r c = if r = (b 4).1 ∧ c = 1 then y else if r = (b 4).1 ∧ c = 0 then x else (b 4).2 r c := fun c => rfl
      rw [ee, ee]
      by_cases hr : r = (b 4).1
      · rw [if_neg (by omega), if_pos ⟨hr, rfl⟩, if_pos ⟨hr, rfl⟩]
        omega
      · rw [if_neg (by omega), if_neg (by omega), if_neg (by omega), if_neg (by omega)]
        exact hse r r0 (by omega)
    · rw [if_neg h2]
      exact ⟨⟨⟨hg, hm, hO, hl, hp⟩, hw, hz, hse, hv⟩, hf⟩
theorem GB_plan (hG : GB b) (h3 : (b 3).1 ≤ 24) (h1 : (b 1).1 ≤ 8) : GB (s_plan b x y) := by
  unfold s_plan
  obtain ⟨⟨⟨hg, hm, hO, hl, hp⟩, hw, hz, hse, hv⟩, hf⟩ := hG
  by_cases h0 : x = -1
  · rw [if_pos h0]
    exact ⟨⟨⟨hg, hm, hO, hl, fun r r0 r1 => by have r1' : r < 0 := r1; omega⟩, hw, hz, hse, fun r r0 r1 => by have r1' : r < 0 := r1; omega⟩, by rw [Fine_5]; exact hf⟩
  · rw [if_neg h0]
    by_cases h2 : vPlan b x y ∧ (x ≤ 1 → -999 ≤ y ∧ y ≤ 999) ∧ (b 5).1 < 8
    · rw [cif_t h2]
      obtain ⟨⟨v1, v2, v3⟩, v4, v5⟩ := h2
      have ee : ∀ r c, (bSet b 5 (tPut (tPut (tGrow (b 5)) (b 5).1 0 x) (b 5).1 1 y) 5).2 r c = if r = (b 5).1 ∧ c = 1 then y else if r = (b 5).1 ∧ c = 0 then x else (b 5).2 r c := fun r c => rfl
      refine ⟨⟨⟨hg, hm, hO, hl, fun r r0 r1 => ?_⟩, hw, hz, hse, fun r r0 r1 => ?_⟩, by rw [Fine_5]; exact hf⟩
      · have r1' : r < (b 5).1 + 1 := r1
        rw [ee, ee]
        by_cases hr : r = (b 5).1
        · rw [if_neg (by omega), if_pos ⟨hr, rfl⟩, if_pos ⟨hr, rfl⟩]
          exact ⟨v1, v4⟩
        · rw [if_neg (by omega), if_neg (by omega), if_neg (by omega), if_neg (by omega)]
          exact hp r r0 (by omega)
      · have r1' : r < (b 5).1 + 1 := r1
        rw [ee, ee]
        by_cases hr : r = (b 5).1
        · rw [if_neg (by omega), if_pos ⟨hr, rfl⟩, if_pos ⟨hr, rfl⟩]
          exact ⟨fun h => by have := v2 h; omega, fun h => by have := v3 h; omega⟩
        · rw [if_neg (by omega), if_neg (by omega), if_neg (by omega), if_neg (by omega)]
          exact hv r r0 (by omega)
    · rw [cif_f h2]
      exact ⟨⟨⟨hg, hm, hO, hl, hp⟩, hw, hz, hse, hv⟩, hf⟩
end GBS
