/-! THE CLASS: what changes it. -/
theorem aA_1 {t : Int × Bk} {v : Int} (h : TryO t = 0) : aA t v = v := if_pos h
theorem aA_0 {t : Int × Bk} {v : Int} (h : ¬ TryO t = 0) : aA t v = TryO t := if_neg h
theorem aN_1 {t : Int × Bk} {b : Bk} (h : TryO t = 0) : aN b t = t.2 := if_pos h
theorem aN_0 {t : Int × Bk} {b : Bk} (h : ¬ TryO t = 0) : aN b t = b := if_neg h
def pQty (b : Bk) (g k e s : Int) : Int := if pLeg b g k e s < 0 then 0 else (b 3).2 (pLeg b g k e s) 4
noncomputable def a_would (t : Int × Bk) : Int := if TryO t = 0 then pMargin t.2 else nNO
noncomputable def hStp (b : Bk) (g e q : Int) (s : Int × Int) : Int × Int := if a_would (tTrade b g 0 e 0 q) ≠ nNO ∧ a_would (tTrade b g 0 e 0 q) < s.2 then (q, a_would (tTrade b g 0 e 0 q)) else s
noncomputable def hIt (b : Bk) (g e : Int) (n : Nat) : Int × Int := it (fun i s => hStp b g e (1 * ((i : Int) + 1)) (hStp b g e (-1 * ((i : Int) + 1)) s)) (0, pMargin b) n
noncomputable def a_hedge (b : Bk) (g e : Int) : Int := if (0 ≤ g ∧ g ≤ 4) ∧ (0 ≤ e ∧ e ≤ 5) then (hIt b g e 20).1 else -1
def a_share (b : Bk) (g p : Int) : Int := if (0 ≤ g ∧ g ≤ 4) ∧ (0 ≤ p ∧ p ≤ 1) ∧ 0 < pScansN b 5 then (if p = 0 then pScan b g else pScansN b 5) / (Nat.gcd (pScansN b 5).toNat (pScan b g).toNat : Int) else nNO
noncomputable def a_ends (b : Bk) : Int := cif (Fine (bFollow b)) (pMargin (bFollow b)) nNO
section CHG
variable {L d N : Nat} {z X Y q r v t c n g j k e s o u x y : Int} {w : gW} {m m' : gM} {K : Option gV → gW → gM → Prop} {b b' b2 kb : Bk} {xs : Int → Int}
set_option maxHeartbeats 400000 in
theorem p_ground (hI : CI xs m X Y b kb) (hG : GB b) (hk : ∀ m' X' Y', CI xs m' X' Y' (aN b (tGround b g c v)) kb → FrK m m' → K (some (0, aA (tGround b g c v) (a_groundOf b g c))) (w0 L z X' Y') m') : C (d + 14) M_X7_ground [(2, 0), (0, g), (0, c), (0, v)] (w0 L z X Y) m K := by
  have hI' := hI
  obtain ⟨⟨hX, hY, hne⟩, hbX, ⟨b2, hbY⟩, hbK, hD, hst⟩ := hI'
  have hG' := hG
  obtain ⟨hW, hf⟩ := hG'
  have hqX := BB_r hX
  have hqY := BB_r hY
  have x0 := RB_bd hX
  have y0 := RB_bd hY
  simp (disch := first | assumption | omega | (simp (disch := omega) only [gU_row, gU_same, gU_i, gCp_row] <;> omega)) only [e_X7_ground, s_X7_ground_0, s_X7_ground_1, s_X7_ground_2, s_X7_ground_3, s_X7_ground_6, s_X7_ground_8, s_X7_ground_9, s_X7_ground_10, s_X7_ground_11, s_X7_ground_12, s_X7_ground_15, s_X7_ground_17, s_X7_ground_19, s_X7_ground_22, s_X7_ground_24, s_X7_ground_25, s_X7_ground_26, s_X7_ground_29, s_X7_ground_31, ↓reduceIte, Option.toList_some, Option.toList_none, List.cons_append, List.nil_append, List.singleton_append, List.append_nil, true_and, and_true, true_or, or_true, andT, iteT, iteF, itT, itF, zS_0, zP_0_0, zP_0_1, zP_0_2, zP_0_4, zP_0_5, zP_0_6]
  refine p_groundOf hI ?_
  simp (disch := first | assumption | omega | (simp (disch := omega) only [gU_row, gU_same, gU_i, gCp_row] <;> omega)) only [e_X7_ground, s_X7_ground_0, s_X7_ground_1, s_X7_ground_2, s_X7_ground_3, s_X7_ground_6, s_X7_ground_8, s_X7_ground_9, s_X7_ground_10, s_X7_ground_11, s_X7_ground_12, s_X7_ground_15, s_X7_ground_17, s_X7_ground_19, s_X7_ground_22, s_X7_ground_24, s_X7_ground_25, s_X7_ground_26, s_X7_ground_29, s_X7_ground_31, ↓reduceIte, Option.toList_some, Option.toList_none, List.cons_append, List.nil_append, List.singleton_append, List.append_nil, true_and, and_true, true_or, or_true, andT, iteT, iteF, itT, itF, zS_0, zP_0_0, zP_0_1, zP_0_2, zP_0_4, zP_0_5, zP_0_6]
  refine c_tryGround hX hY hne hbX hbY hst hW hf.1 (fun m1 b1 f1 g1 h1 => ?_)
  generalize htt : tGround b g c v = t' at *
  by_cases ht : TryO t' = 0
  · obtain ⟨e1, d1, hf1⟩ := h1 ht
    subst e1
    have hk' := hk m1 Y X (by rw [aN_1 ht]; exact CI_acc hI f1 g1 d1) (FrK_Fr f1 (by omega) (by omega))
    rw [aA_1 ht] at hk'
    simp (disch := first | assumption | omega | (simp (disch := omega) only [gU_row, gU_same, gU_i, gCp_row] <;> omega)) only [e_X7_ground, s_X7_ground_0, s_X7_ground_1, s_X7_ground_2, s_X7_ground_3, s_X7_ground_6, s_X7_ground_8, s_X7_ground_9, s_X7_ground_10, s_X7_ground_11, s_X7_ground_12, s_X7_ground_15, s_X7_ground_17, s_X7_ground_19, s_X7_ground_22, s_X7_ground_24, s_X7_ground_25, s_X7_ground_26, s_X7_ground_29, s_X7_ground_31, ↓reduceIte, Option.toList_some, Option.toList_none, List.cons_append, List.nil_append, List.singleton_append, List.append_nil, true_and, and_true, true_or, or_true, andT, iteT, iteF, itT, itF, zS_0, zP_0_0, zP_0_1, zP_0_2, zP_0_4, zP_0_5, zP_0_6, ht, c_accept hX hY, ne_eq, not_true_eq_false]
    exact hk'
  · have hk' := hk m1 X Y (by rw [aN_0 ht]; exact CI_try hI f1 g1) (FrK_Fr f1 (by omega) (by omega))
    rw [aA_0 ht] at hk'
    simp (disch := first | assumption | omega | (simp (disch := omega) only [gU_row, gU_same, gU_i, gCp_row] <;> omega)) only [e_X7_ground, s_X7_ground_0, s_X7_ground_1, s_X7_ground_2, s_X7_ground_3, s_X7_ground_6, s_X7_ground_8, s_X7_ground_9, s_X7_ground_10, s_X7_ground_11, s_X7_ground_12, s_X7_ground_15, s_X7_ground_17, s_X7_ground_19, s_X7_ground_22, s_X7_ground_24, s_X7_ground_25, s_X7_ground_26, s_X7_ground_29, s_X7_ground_31, ↓reduceIte, Option.toList_some, Option.toList_none, List.cons_append, List.nil_append, List.singleton_append, List.append_nil, true_and, and_true, true_or, or_true, andT, iteT, iteF, itT, itF, zS_0, zP_0_0, zP_0_1, zP_0_2, zP_0_4, zP_0_5, zP_0_6, ne_eq, not_false_eq_true]
    exact hk'
set_option maxHeartbeats 400000 in
theorem p_move (hI : CI xs m X Y b kb) (hG : GB b) (hk : ∀ m' X' Y', CI xs m' X' Y' (aN b (tMove b u s v)) kb → FrK m m' → K (some (0, aA (tMove b u s v) (((tMove b u s v).2 1).1 - 1))) (w0 L z X' Y') m') : C (d + 14) M_X7_move [(2, 0), (0, u), (0, s), (0, v)] (w0 L z X Y) m K := by
  have hI' := hI
  obtain ⟨⟨hX, hY, hne⟩, hbX, ⟨b2, hbY⟩, hbK, hD, hst⟩ := hI'
  have hG' := hG
  obtain ⟨hW, hf⟩ := hG'
  have hqX := BB_r hX
  have hqY := BB_r hY
  have x0 := RB_bd hX
  have y0 := RB_bd hY
  simp (disch := first | assumption | omega | (simp (disch := omega) only [gU_row, gU_same, gU_i, gCp_row] <;> omega)) only [e_X7_move, s_X7_move_0, s_X7_move_1, s_X7_move_2, s_X7_move_3, s_X7_move_4, s_X7_move_7, s_X7_move_9, s_X7_move_11, s_X7_move_14, s_X7_move_16, s_X7_move_17, s_X7_move_18, s_X7_move_21, s_X7_move_22, s_X7_move_25, s_X7_move_28, s_X7_move_31, s_X7_move_34, s_X7_move_35, s_X7_move_36, ↓reduceIte, Option.toList_some, Option.toList_none, List.cons_append, List.nil_append, List.singleton_append, List.append_nil, true_and, and_true, true_or, or_true, andT, iteT, iteF, itT, itF, zS_0, zP_0_0, zP_0_1, zP_0_2, zP_0_4, zP_0_5, zP_0_6]
  refine c_tryMove hX hY hne hbX hbY hst hW hf.1 (fun m1 b1 f1 g1 h1 => ?_)
  generalize htt : tMove b u s v = t' at *
  by_cases ht : TryO t' = 0
  · obtain ⟨e1, d1, hf1⟩ := h1 ht
    subst e1
    have hk' := hk m1 Y X (by rw [aN_1 ht]; exact CI_acc hI f1 g1 d1) (FrK_Fr f1 (by omega) (by omega))
    rw [aA_1 ht] at hk'
    have n1 := bk_n1 g1
    have sz := BK_s1 g1
    simp (disch := first | assumption | omega | (simp (disch := omega) only [gU_row, gU_same, gU_i, gCp_row] <;> omega)) only [e_X7_move, s_X7_move_0, s_X7_move_1, s_X7_move_2, s_X7_move_3, s_X7_move_4, s_X7_move_7, s_X7_move_9, s_X7_move_11, s_X7_move_14, s_X7_move_16, s_X7_move_17, s_X7_move_18, s_X7_move_21, s_X7_move_22, s_X7_move_25, s_X7_move_28, s_X7_move_31, s_X7_move_34, s_X7_move_35, s_X7_move_36, ↓reduceIte, Option.toList_some, Option.toList_none, List.cons_append, List.nil_append, List.singleton_append, List.append_nil, true_and, and_true, true_or, or_true, andT, iteT, iteF, itT, itF, zS_0, zP_0_0, zP_0_1, zP_0_2, zP_0_4, zP_0_5, zP_0_6, ht, c_accept hX hY, zS_r0 hY, zP_r0_0 hY, zP_r0_1 hY, zP_r0_2 hY, zP_r0_3 hY, zP_r0_4 hY, zP_r0_5 hY, zP_r0_6 hY, zP_r0_7 hY, zP_r0_8 hY, zP_r0_9 hY, zP_r0_10 hY, zP_r0_11 hY, zP_r0_12 hY, zP_r0_13 hY, zP_r0_14 hY, zP_r0_15 hY, zS_r14 hY, zP_r14_1 hY, zP_r14_2 hY, zP_r14_3 hY, zP_r14_4 hY, zP_r14_6 hY, zP_r14_7 hY, zP_r14_8 hY, zP_r14_9 hY, zP_r14_10 hY, zP_r14_11 hY, zP_r14_12 hY, zP_r14_13 hY, zP_r14_14 hY, zP_r14_15 hY, zS_r15 hY, zS_r16 hY, zS_r17 hY, zS_r18 hY, zS_r19 hY, zS_r20 hY, zS_r21 hY, zS_r22 hY, zS_r23 hY, zS_r24 hY, zS_r25 hY, zS_r26 hY, zS_r27 hY, zS_r28 hY, zS_r29 hY, zS_r54 hY, zS_r55 hY, zS_r61 hY, zS_r67 hY, zS_r68 hY, zS_r69 hY, zS_r70 hY, zS_r71 hY, zS_r72 hY, zS_r73 hY, zS_r79 hY, zS_r85 hY, zS_r86 hY, zS_b0 hqY, zP_b0_0 hqY, zP_b0_1 hqY, zP_b0_2 hqY, zP_b0_3 hqY, zP_b0_4 hqY, zP_b0_5 hqY, zS_b1 hqY, zS_b3 hqY, zS_b5 hqY, zS_b7 hqY, zS_b9 hqY, zS_b11 hqY, n1, isub_ok, ne_eq, not_true_eq_false]
    exact hk'
  · have hk' := hk m1 X Y (by rw [aN_0 ht]; exact CI_try hI f1 g1) (FrK_Fr f1 (by omega) (by omega))
    rw [aA_0 ht] at hk'
    simp (disch := first | assumption | omega | (simp (disch := omega) only [gU_row, gU_same, gU_i, gCp_row] <;> omega)) only [e_X7_move, s_X7_move_0, s_X7_move_1, s_X7_move_2, s_X7_move_3, s_X7_move_4, s_X7_move_7, s_X7_move_9, s_X7_move_11, s_X7_move_14, s_X7_move_16, s_X7_move_17, s_X7_move_18, s_X7_move_21, s_X7_move_22, s_X7_move_25, s_X7_move_28, s_X7_move_31, s_X7_move_34, s_X7_move_35, s_X7_move_36, ↓reduceIte, Option.toList_some, Option.toList_none, List.cons_append, List.nil_append, List.singleton_append, List.append_nil, true_and, and_true, true_or, or_true, andT, iteT, iteF, itT, itF, zS_0, zP_0_0, zP_0_1, zP_0_2, zP_0_4, zP_0_5, zP_0_6, ne_eq, not_false_eq_true]
    exact hk'
set_option maxHeartbeats 400000 in
theorem p_offset (hI : CI xs m X Y b kb) (hG : GB b) (hk : ∀ m' X' Y', CI xs m' X' Y' (aN b (tOffset b x y t q s v)) kb → FrK m m' → K (some (0, aA (tOffset b x y t q s v) (((tOffset b x y t q s v).2 2).1 - 1))) (w0 L z X' Y') m') : C (d + 14) M_X7_offset [(2, 0), (0, x), (0, y), (0, t), (0, q), (0, s), (0, v)] (w0 L z X Y) m K := by
  have hI' := hI
  obtain ⟨⟨hX, hY, hne⟩, hbX, ⟨b2, hbY⟩, hbK, hD, hst⟩ := hI'
  have hG' := hG
  obtain ⟨hW, hf⟩ := hG'
  have hqX := BB_r hX
  have hqY := BB_r hY
  have x0 := RB_bd hX
  have y0 := RB_bd hY
  simp (disch := first | assumption | omega | (simp (disch := omega) only [gU_row, gU_same, gU_i, gCp_row] <;> omega)) only [e_X7_offset, s_X7_offset_0, s_X7_offset_1, s_X7_offset_2, s_X7_offset_3, s_X7_offset_4, s_X7_offset_6, s_X7_offset_8, s_X7_offset_10, s_X7_offset_13, s_X7_offset_15, s_X7_offset_17, s_X7_offset_20, s_X7_offset_22, s_X7_offset_23, s_X7_offset_24, s_X7_offset_27, s_X7_offset_28, s_X7_offset_31, s_X7_offset_34, s_X7_offset_37, s_X7_offset_40, s_X7_offset_41, s_X7_offset_42, ↓reduceIte, Option.toList_some, Option.toList_none, List.cons_append, List.nil_append, List.singleton_append, List.append_nil, true_and, and_true, true_or, or_true, andT, iteT, iteF, itT, itF, zS_0, zP_0_0, zP_0_1, zP_0_2, zP_0_4, zP_0_5, zP_0_6]
  refine c_tryOffset hX hY hne hbX hbY hW hf.1 (fun m1 b1 f1 g1 h1 => ?_)
  generalize htt : tOffset b x y t q s v = t' at *
  by_cases ht : TryO t' = 0
  · obtain ⟨e1, d1, hf1⟩ := h1 ht
    subst e1
    have hk' := hk m1 Y X (by rw [aN_1 ht]; exact CI_acc hI f1 g1 d1) (FrK_Fr f1 (by omega) (by omega))
    rw [aA_1 ht] at hk'
    have n1 := bk_n2 g1
    have sz := BK_s2 g1
    simp (disch := first | assumption | omega | (simp (disch := omega) only [gU_row, gU_same, gU_i, gCp_row] <;> omega)) only [e_X7_offset, s_X7_offset_0, s_X7_offset_1, s_X7_offset_2, s_X7_offset_3, s_X7_offset_4, s_X7_offset_6, s_X7_offset_8, s_X7_offset_10, s_X7_offset_13, s_X7_offset_15, s_X7_offset_17, s_X7_offset_20, s_X7_offset_22, s_X7_offset_23, s_X7_offset_24, s_X7_offset_27, s_X7_offset_28, s_X7_offset_31, s_X7_offset_34, s_X7_offset_37, s_X7_offset_40, s_X7_offset_41, s_X7_offset_42, ↓reduceIte, Option.toList_some, Option.toList_none, List.cons_append, List.nil_append, List.singleton_append, List.append_nil, true_and, and_true, true_or, or_true, andT, iteT, iteF, itT, itF, zS_0, zP_0_0, zP_0_1, zP_0_2, zP_0_4, zP_0_5, zP_0_6, ht, c_accept hX hY, zS_r0 hY, zP_r0_0 hY, zP_r0_1 hY, zP_r0_2 hY, zP_r0_3 hY, zP_r0_4 hY, zP_r0_5 hY, zP_r0_6 hY, zP_r0_7 hY, zP_r0_8 hY, zP_r0_9 hY, zP_r0_10 hY, zP_r0_11 hY, zP_r0_12 hY, zP_r0_13 hY, zP_r0_14 hY, zP_r0_15 hY, zS_r14 hY, zP_r14_1 hY, zP_r14_2 hY, zP_r14_3 hY, zP_r14_4 hY, zP_r14_6 hY, zP_r14_7 hY, zP_r14_8 hY, zP_r14_9 hY, zP_r14_10 hY, zP_r14_11 hY, zP_r14_12 hY, zP_r14_13 hY, zP_r14_14 hY, zP_r14_15 hY, zS_r15 hY, zS_r16 hY, zS_r17 hY, zS_r18 hY, zS_r19 hY, zS_r20 hY, zS_r21 hY, zS_r22 hY, zS_r23 hY, zS_r24 hY, zS_r25 hY, zS_r26 hY, zS_r27 hY, zS_r28 hY, zS_r29 hY, zS_r54 hY, zS_r55 hY, zS_r61 hY, zS_r67 hY, zS_r68 hY, zS_r69 hY, zS_r70 hY, zS_r71 hY, zS_r72 hY, zS_r73 hY, zS_r79 hY, zS_r85 hY, zS_r86 hY, zS_b0 hqY, zP_b0_0 hqY, zP_b0_1 hqY, zP_b0_2 hqY, zP_b0_3 hqY, zP_b0_4 hqY, zP_b0_5 hqY, zS_b1 hqY, zS_b3 hqY, zS_b5 hqY, zS_b7 hqY, zS_b9 hqY, zS_b11 hqY, n1, isub_ok, ne_eq, not_true_eq_false]
    exact hk'
  · have hk' := hk m1 X Y (by rw [aN_0 ht]; exact CI_try hI f1 g1) (FrK_Fr f1 (by omega) (by omega))
    rw [aA_0 ht] at hk'
    simp (disch := first | assumption | omega | (simp (disch := omega) only [gU_row, gU_same, gU_i, gCp_row] <;> omega)) only [e_X7_offset, s_X7_offset_0, s_X7_offset_1, s_X7_offset_2, s_X7_offset_3, s_X7_offset_4, s_X7_offset_6, s_X7_offset_8, s_X7_offset_10, s_X7_offset_13, s_X7_offset_15, s_X7_offset_17, s_X7_offset_20, s_X7_offset_22, s_X7_offset_23, s_X7_offset_24, s_X7_offset_27, s_X7_offset_28, s_X7_offset_31, s_X7_offset_34, s_X7_offset_37, s_X7_offset_40, s_X7_offset_41, s_X7_offset_42, ↓reduceIte, Option.toList_some, Option.toList_none, List.cons_append, List.nil_append, List.singleton_append, List.append_nil, true_and, and_true, true_or, or_true, andT, iteT, iteF, itT, itF, zS_0, zP_0_0, zP_0_1, zP_0_2, zP_0_4, zP_0_5, zP_0_6, ne_eq, not_false_eq_true]
    exact hk'
set_option maxHeartbeats 400000 in
theorem p_trade (hI : CI xs m X Y b kb) (hG : GB b) (hk : ∀ m' X' Y', CI xs m' X' Y' (aN b (tTrade b g k e s q)) kb → FrK m m' → K (some (0, aA (tTrade b g k e s q) (pQty (tTrade b g k e s q).2 g k e s))) (w0 L z X' Y') m') : C (d + 14) M_X7_trade [(2, 0), (0, g), (0, k), (0, e), (0, s), (0, q)] (w0 L z X Y) m K := by
  have hI' := hI
  obtain ⟨⟨hX, hY, hne⟩, hbX, ⟨b2, hbY⟩, hbK, hD, hst⟩ := hI'
  have hG' := hG
  obtain ⟨hW, hf⟩ := hG'
  have hqX := BB_r hX
  have hqY := BB_r hY
  have x0 := RB_bd hX
  have y0 := RB_bd hY
  simp (disch := first | assumption | omega | (simp (disch := omega) only [gU_row, gU_same, gU_i, gCp_row] <;> omega)) only [e_X7_trade, s_X7_trade_0, s_X7_trade_1, s_X7_trade_2, s_X7_trade_3, s_X7_trade_4, s_X7_trade_6, s_X7_trade_8, s_X7_trade_11, s_X7_trade_13, s_X7_trade_15, s_X7_trade_18, s_X7_trade_20, s_X7_trade_21, s_X7_trade_22, s_X7_trade_25, s_X7_trade_26, s_X7_trade_29, s_X7_trade_32, s_X7_trade_33, s_X7_trade_34, s_X7_trade_35, s_X7_trade_37, s_X7_trade_40, s_X7_trade_42, s_X7_trade_44, s_X7_trade_47, s_X7_trade_48, s_X7_trade_51, s_X7_trade_52, s_X7_trade_55, s_X7_trade_58, s_X7_trade_61, s_X7_trade_63, s_X7_trade_64, s_X7_trade_67, ↓reduceIte, Option.toList_some, Option.toList_none, List.cons_append, List.nil_append, List.singleton_append, List.append_nil, true_and, and_true, true_or, or_true, andT, iteT, iteF, itT, itF, zS_0, zP_0_0, zP_0_1, zP_0_2, zP_0_4, zP_0_5, zP_0_6]
  refine c_tryTrade hX hY hne hbX hbY hW hf.1 (fun m1 b1 f1 g1 h1 => ?_)
  generalize htt : tTrade b g k e s q = t' at *
  by_cases ht : TryO t' = 0
  · obtain ⟨e1, d1, hf1⟩ := h1 ht
    subst e1
    have hk' := hk m1 Y X (by rw [aN_1 ht]; exact CI_acc hI f1 g1 d1) (FrK_Fr f1 (by omega) (by omega))
    rw [aA_1 ht] at hk'
    have sz := BK_s3 g1
    simp (disch := first | assumption | omega | (simp (disch := omega) only [gU_row, gU_same, gU_i, gCp_row] <;> omega)) only [e_X7_trade, s_X7_trade_0, s_X7_trade_1, s_X7_trade_2, s_X7_trade_3, s_X7_trade_4, s_X7_trade_6, s_X7_trade_8, s_X7_trade_11, s_X7_trade_13, s_X7_trade_15, s_X7_trade_18, s_X7_trade_20, s_X7_trade_21, s_X7_trade_22, s_X7_trade_25, s_X7_trade_26, s_X7_trade_29, s_X7_trade_32, s_X7_trade_33, s_X7_trade_34, s_X7_trade_35, s_X7_trade_37, s_X7_trade_40, s_X7_trade_42, s_X7_trade_44, s_X7_trade_47, s_X7_trade_48, s_X7_trade_51, s_X7_trade_52, s_X7_trade_55, s_X7_trade_58, s_X7_trade_61, s_X7_trade_63, s_X7_trade_64, s_X7_trade_67, ↓reduceIte, Option.toList_some, Option.toList_none, List.cons_append, List.nil_append, List.singleton_append, List.append_nil, true_and, and_true, true_or, or_true, andT, iteT, iteF, itT, itF, zS_0, zP_0_0, zP_0_1, zP_0_2, zP_0_4, zP_0_5, zP_0_6, ht, c_accept hX hY, zS_r0 hY, zP_r0_0 hY, zP_r0_1 hY, zP_r0_2 hY, zP_r0_3 hY, zP_r0_4 hY, zP_r0_5 hY, zP_r0_6 hY, zP_r0_7 hY, zP_r0_8 hY, zP_r0_9 hY, zP_r0_10 hY, zP_r0_11 hY, zP_r0_12 hY, zP_r0_13 hY, zP_r0_14 hY, zP_r0_15 hY, zS_r14 hY, zP_r14_1 hY, zP_r14_2 hY, zP_r14_3 hY, zP_r14_4 hY, zP_r14_6 hY, zP_r14_7 hY, zP_r14_8 hY, zP_r14_9 hY, zP_r14_10 hY, zP_r14_11 hY, zP_r14_12 hY, zP_r14_13 hY, zP_r14_14 hY, zP_r14_15 hY, zS_r15 hY, zS_r16 hY, zS_r17 hY, zS_r18 hY, zS_r19 hY, zS_r20 hY, zS_r21 hY, zS_r22 hY, zS_r23 hY, zS_r24 hY, zS_r25 hY, zS_r26 hY, zS_r27 hY, zS_r28 hY, zS_r29 hY, zS_r54 hY, zS_r55 hY, zS_r61 hY, zS_r67 hY, zS_r68 hY, zS_r69 hY, zS_r70 hY, zS_r71 hY, zS_r72 hY, zS_r73 hY, zS_r79 hY, zS_r85 hY, zS_r86 hY, zS_b0 hqY, zP_b0_0 hqY, zP_b0_1 hqY, zP_b0_2 hqY, zP_b0_3 hqY, zP_b0_4 hqY, zP_b0_5 hqY, zS_b1 hqY, zS_b3 hqY, zS_b5 hqY, zS_b7 hqY, zS_b9 hqY, zS_b11 hqY, ne_eq, not_true_eq_false]
    refine c_legOf hqY g1 ?_
    have pb := pLeg_bd (b := t'.2) (g := g) (k := k) (e := e) (s := s) (by omega)
    unfold pQty at hk'
    by_cases hlg : pLeg t'.2 g k e s < 0
    · rw [if_pos hlg] at hk'
      simp (disch := first | assumption | omega | (simp (disch := omega) only [gU_row, gU_same, gU_i, gCp_row] <;> omega)) only [e_X7_trade, s_X7_trade_0, s_X7_trade_1, s_X7_trade_2, s_X7_trade_3, s_X7_trade_4, s_X7_trade_6, s_X7_trade_8, s_X7_trade_11, s_X7_trade_13, s_X7_trade_15, s_X7_trade_18, s_X7_trade_20, s_X7_trade_21, s_X7_trade_22, s_X7_trade_25, s_X7_trade_26, s_X7_trade_29, s_X7_trade_32, s_X7_trade_33, s_X7_trade_34, s_X7_trade_35, s_X7_trade_37, s_X7_trade_40, s_X7_trade_42, s_X7_trade_44, s_X7_trade_47, s_X7_trade_48, s_X7_trade_51, s_X7_trade_52, s_X7_trade_55, s_X7_trade_58, s_X7_trade_61, s_X7_trade_63, s_X7_trade_64, s_X7_trade_67, ↓reduceIte, Option.toList_some, Option.toList_none, List.cons_append, List.nil_append, List.singleton_append, List.append_nil, true_and, and_true, true_or, or_true, andT, iteT, iteF, itT, itF, zS_0, zP_0_0, zP_0_1, zP_0_2, zP_0_4, zP_0_5, zP_0_6]
      exact hk'
    · rw [if_neg hlg] at hk'
      simp (disch := first | assumption | omega | (simp (disch := omega) only [gU_row, gU_same, gU_i, gCp_row] <;> omega)) only [e_X7_trade, s_X7_trade_0, s_X7_trade_1, s_X7_trade_2, s_X7_trade_3, s_X7_trade_4, s_X7_trade_6, s_X7_trade_8, s_X7_trade_11, s_X7_trade_13, s_X7_trade_15, s_X7_trade_18, s_X7_trade_20, s_X7_trade_21, s_X7_trade_22, s_X7_trade_25, s_X7_trade_26, s_X7_trade_29, s_X7_trade_32, s_X7_trade_33, s_X7_trade_34, s_X7_trade_35, s_X7_trade_37, s_X7_trade_40, s_X7_trade_42, s_X7_trade_44, s_X7_trade_47, s_X7_trade_48, s_X7_trade_51, s_X7_trade_52, s_X7_trade_55, s_X7_trade_58, s_X7_trade_61, s_X7_trade_63, s_X7_trade_64, s_X7_trade_67, ↓reduceIte, Option.toList_some, Option.toList_none, List.cons_append, List.nil_append, List.singleton_append, List.append_nil, true_and, and_true, true_or, or_true, andT, iteT, iteF, itT, itF, zS_0, zP_0_0, zP_0_1, zP_0_2, zP_0_4, zP_0_5, zP_0_6, zS_r0 hY, zP_r0_0 hY, zP_r0_1 hY, zP_r0_2 hY, zP_r0_3 hY, zP_r0_4 hY, zP_r0_5 hY, zP_r0_6 hY, zP_r0_7 hY, zP_r0_8 hY, zP_r0_9 hY, zP_r0_10 hY, zP_r0_11 hY, zP_r0_12 hY, zP_r0_13 hY, zP_r0_14 hY, zP_r0_15 hY, zS_r14 hY, zP_r14_1 hY, zP_r14_2 hY, zP_r14_3 hY, zP_r14_4 hY, zP_r14_6 hY, zP_r14_7 hY, zP_r14_8 hY, zP_r14_9 hY, zP_r14_10 hY, zP_r14_11 hY, zP_r14_12 hY, zP_r14_13 hY, zP_r14_14 hY, zP_r14_15 hY, zS_r15 hY, zS_r16 hY, zS_r17 hY, zS_r18 hY, zS_r19 hY, zS_r20 hY, zS_r21 hY, zS_r22 hY, zS_r23 hY, zS_r24 hY, zS_r25 hY, zS_r26 hY, zS_r27 hY, zS_r28 hY, zS_r29 hY, zS_r54 hY, zS_r55 hY, zS_r61 hY, zS_r67 hY, zS_r68 hY, zS_r69 hY, zS_r70 hY, zS_r71 hY, zS_r72 hY, zS_r73 hY, zS_r79 hY, zS_r85 hY, zS_r86 hY, zS_b0 hqY, zP_b0_0 hqY, zP_b0_1 hqY, zP_b0_2 hqY, zP_b0_3 hqY, zP_b0_4 hqY, zP_b0_5 hqY, zS_b1 hqY, zS_b3 hqY, zS_b5 hqY, zS_b7 hqY, zS_b9 hqY, zS_b11 hqY, at_3 hqY g1]
      exact hk'
  · have hk' := hk m1 X Y (by rw [aN_0 ht]; exact CI_try hI f1 g1) (FrK_Fr f1 (by omega) (by omega))
    rw [aA_0 ht] at hk'
    simp (disch := first | assumption | omega | (simp (disch := omega) only [gU_row, gU_same, gU_i, gCp_row] <;> omega)) only [e_X7_trade, s_X7_trade_0, s_X7_trade_1, s_X7_trade_2, s_X7_trade_3, s_X7_trade_4, s_X7_trade_6, s_X7_trade_8, s_X7_trade_11, s_X7_trade_13, s_X7_trade_15, s_X7_trade_18, s_X7_trade_20, s_X7_trade_21, s_X7_trade_22, s_X7_trade_25, s_X7_trade_26, s_X7_trade_29, s_X7_trade_32, s_X7_trade_33, s_X7_trade_34, s_X7_trade_35, s_X7_trade_37, s_X7_trade_40, s_X7_trade_42, s_X7_trade_44, s_X7_trade_47, s_X7_trade_48, s_X7_trade_51, s_X7_trade_52, s_X7_trade_55, s_X7_trade_58, s_X7_trade_61, s_X7_trade_63, s_X7_trade_64, s_X7_trade_67, ↓reduceIte, Option.toList_some, Option.toList_none, List.cons_append, List.nil_append, List.singleton_append, List.append_nil, true_and, and_true, true_or, or_true, andT, iteT, iteF, itT, itF, zS_0, zP_0_0, zP_0_1, zP_0_2, zP_0_4, zP_0_5, zP_0_6, ne_eq, not_false_eq_true]
    exact hk'
set_option maxHeartbeats 400000 in
theorem p_would (hI : CI xs m X Y b kb) (hG : GB b) (hk : ∀ m', CI xs m' X Y b kb → FrK m m' → K (some (1, a_would (tTrade b g k e s q))) (w0 L z X Y) m') : C (d + 14) M_X7_would [(2, 0), (0, g), (0, k), (0, e), (0, s), (0, q)] (w0 L z X Y) m K := by
  have hI' := hI
  obtain ⟨⟨hX, hY, hne⟩, hbX, ⟨b2, hbY⟩, hbK, hD, hst⟩ := hI'
  have hG' := hG
  obtain ⟨hW, hf⟩ := hG'
  have hqX := BB_r hX
  have hqY := BB_r hY
  have x0 := RB_bd hX
  have y0 := RB_bd hY
  simp (disch := first | assumption | omega | (simp (disch := omega) only [gU_row, gU_same, gU_i, gCp_row] <;> omega)) only [e_X7_would, s_X7_would_0, s_X7_would_1, s_X7_would_2, s_X7_would_3, s_X7_would_4, s_X7_would_6, s_X7_would_8, s_X7_would_11, s_X7_would_14, s_X7_would_15, s_X7_would_18, s_X7_would_21, s_X7_would_22, s_X7_would_23, s_X7_would_26, s_X7_would_29, ↓reduceIte, Option.toList_some, Option.toList_none, List.cons_append, List.nil_append, List.singleton_append, List.append_nil, true_and, and_true, true_or, or_true, andT, iteT, iteF, itT, itF, zS_0, zP_0_0, zP_0_1, zP_0_2, zP_0_4, zP_0_5, zP_0_6]
  refine c_tryTrade hX hY hne hbX hbY hW hf.1 (fun m1 b1 f1 g1 h1 => ?_)
  generalize htt : tTrade b g k e s q = t' at *
  have hk' := hk m1 (CI_try hI f1 g1) (FrK_Fr f1 (by omega) (by omega))
  unfold a_would at hk'
  by_cases ht : TryO t' = 0
  · obtain ⟨e1, d1, hf1⟩ := h1 ht
    have em := d1.2.2.1
    rw [if_pos ht] at hk'
    simp (disch := first | assumption | omega | (simp (disch := omega) only [gU_row, gU_same, gU_i, gCp_row] <;> omega)) only [e_X7_would, s_X7_would_0, s_X7_would_1, s_X7_would_2, s_X7_would_3, s_X7_would_4, s_X7_would_6, s_X7_would_8, s_X7_would_11, s_X7_would_14, s_X7_would_15, s_X7_would_18, s_X7_would_21, s_X7_would_22, s_X7_would_23, s_X7_would_26, s_X7_would_29, ↓reduceIte, Option.toList_some, Option.toList_none, List.cons_append, List.nil_append, List.singleton_append, List.append_nil, true_and, and_true, true_or, or_true, andT, iteT, iteF, itT, itF, zS_0, zP_0_0, zP_0_1, zP_0_2, zP_0_4, zP_0_5, zP_0_6, ht, zS_r0 hY, zP_r0_0 hY, zP_r0_1 hY, zP_r0_2 hY, zP_r0_3 hY, zP_r0_4 hY, zP_r0_5 hY, zP_r0_6 hY, zP_r0_7 hY, zP_r0_8 hY, zP_r0_9 hY, zP_r0_10 hY, zP_r0_11 hY, zP_r0_12 hY, zP_r0_13 hY, zP_r0_14 hY, zP_r0_15 hY, zS_r14 hY, zP_r14_1 hY, zP_r14_2 hY, zP_r14_3 hY, zP_r14_4 hY, zP_r14_6 hY, zP_r14_7 hY, zP_r14_8 hY, zP_r14_9 hY, zP_r14_10 hY, zP_r14_11 hY, zP_r14_12 hY, zP_r14_13 hY, zP_r14_14 hY, zP_r14_15 hY, zS_r15 hY, zS_r16 hY, zS_r17 hY, zS_r18 hY, zS_r19 hY, zS_r20 hY, zS_r21 hY, zS_r22 hY, zS_r23 hY, zS_r24 hY, zS_r25 hY, zS_r26 hY, zS_r27 hY, zS_r28 hY, zS_r29 hY, zS_r54 hY, zS_r55 hY, zS_r61 hY, zS_r67 hY, zS_r68 hY, zS_r69 hY, zS_r70 hY, zS_r71 hY, zS_r72 hY, zS_r73 hY, zS_r79 hY, zS_r85 hY, zS_r86 hY, em, ne_eq, not_true_eq_false]
    exact hk'
  · rw [if_neg ht] at hk'
    simp (disch := first | assumption | omega | (simp (disch := omega) only [gU_row, gU_same, gU_i, gCp_row] <;> omega)) only [e_X7_would, s_X7_would_0, s_X7_would_1, s_X7_would_2, s_X7_would_3, s_X7_would_4, s_X7_would_6, s_X7_would_8, s_X7_would_11, s_X7_would_14, s_X7_would_15, s_X7_would_18, s_X7_would_21, s_X7_would_22, s_X7_would_23, s_X7_would_26, s_X7_would_29, ↓reduceIte, Option.toList_some, Option.toList_none, List.cons_append, List.nil_append, List.singleton_append, List.append_nil, true_and, and_true, true_or, or_true, andT, iteT, iteF, itT, itF, zS_0, zP_0_0, zP_0_1, zP_0_2, zP_0_4, zP_0_5, zP_0_6, ne_eq, not_false_eq_true]
    exact hk'
set_option maxHeartbeats 1000000 in
theorem p_hedge (hI : CI xs m X Y b kb) (hG : GB b) (hk : ∀ m', CI xs m' X Y b kb → FrK m m' → K (some (0, a_hedge b g e)) (w0 L z X Y) m') : C (d + 15) M_X7_hedge [(2, 0), (0, g), (0, e)] (w0 L z X Y) m K := by
  have hI' := hI
  obtain ⟨⟨hX, hY, hne⟩, hbX, ⟨b2, hbY⟩, hbK, hD, hst⟩ := hI'
  have hqX := BB_r hX
  have hqY := BB_r hY
  have x0 := RB_bd hX
  have y0 := RB_bd hY
  have em := hD.2.2.1
  unfold a_hedge at hk
  by_cases h1 : 0 ≤ g ∧ g ≤ 4
  · by_cases h2 : 0 ≤ e ∧ e ≤ 5
    · rw [if_pos ⟨h1, h2⟩] at hk
      simp (disch := first | assumption | omega | (simp (disch := omega) only [gU_row, gU_same, gU_i, gCp_row] <;> omega)) only [e_X7_hedge, s_X7_hedge_0, s_X7_hedge_1, s_X7_hedge_4, s_X7_hedge_7, s_X7_hedge_8, s_X7_hedge_9, s_X7_hedge_10, s_X7_hedge_13, s_X7_hedge_16, s_X7_hedge_17, s_X7_hedge_18, s_X7_hedge_19, s_X7_hedge_20, s_X7_hedge_21, s_X7_hedge_24, s_X7_hedge_27, s_X7_hedge_28, s_X7_hedge_29, s_X7_hedge_31, s_X7_hedge_32, s_X7_hedge_36, s_X7_hedge_38, s_X7_hedge_41, s_X7_hedge_42, s_X7_hedge_46, s_X7_hedge_47, s_X7_hedge_50, s_X7_hedge_51, s_X7_hedge_52, s_X7_hedge_53, s_X7_hedge_54, s_X7_hedge_55, s_X7_hedge_57, s_X7_hedge_59, s_X7_hedge_60, s_X7_hedge_63, s_X7_hedge_65, s_X7_hedge_67, s_X7_hedge_70, s_X7_hedge_71, s_X7_hedge_74, s_X7_hedge_76, s_X7_hedge_78, s_X7_hedge_79, s_X7_hedge_82, s_X7_hedge_84, s_X7_hedge_86, s_X7_hedge_88, s_X7_hedge_90, s_X7_hedge_91, s_X7_hedge_95, s_X7_hedge_98, s_X7_hedge_101, s_X7_hedge_104, s_X7_hedge_105, ↓reduceIte, Option.toList_some, Option.toList_none, List.cons_append, List.nil_append, List.singleton_append, List.append_nil, true_and, and_true, true_or, or_true, andT, iteT, iteF, itT, itF, zS_0, zP_0_0, zP_0_1, zP_0_2, zP_0_4, zP_0_5, zP_0_6, within_T, within_F, isGround_T, isGround_F, isTape_T, isTape_F, ne_eq, not_true_eq_false, not_false_eq_true, zS_r0 hX, zP_r0_0 hX, zP_r0_1 hX, zP_r0_2 hX, zP_r0_3 hX, zP_r0_4 hX, zP_r0_5 hX, zP_r0_6 hX, zP_r0_7 hX, zP_r0_8 hX, zP_r0_9 hX, zP_r0_10 hX, zP_r0_11 hX, zP_r0_12 hX, zP_r0_13 hX, zP_r0_14 hX, zP_r0_15 hX, zS_r14 hX, zP_r14_1 hX, zP_r14_2 hX, zP_r14_3 hX, zP_r14_4 hX, zP_r14_6 hX, zP_r14_7 hX, zP_r14_8 hX, zP_r14_9 hX, zP_r14_10 hX, zP_r14_11 hX, zP_r14_12 hX, zP_r14_13 hX, zP_r14_14 hX, zP_r14_15 hX, zS_r15 hX, zS_r16 hX, zS_r17 hX, zS_r18 hX, zS_r19 hX, zS_r20 hX, zS_r21 hX, zS_r22 hX, zS_r23 hX, zS_r24 hX, zS_r25 hX, zS_r26 hX, zS_r27 hX, zS_r28 hX, zS_r29 hX, zS_r54 hX, zS_r55 hX, zS_r61 hX, zS_r67 hX, zS_r68 hX, zS_r69 hX, zS_r70 hX, zS_r71 hX, zS_r72 hX, zS_r73 hX, zS_r79 hX, zS_r85 hX, zS_r86 hX, em]
      refine R_for0 20 (fun i ls m' => (∃ a7 a8, ls = [(2, 0), (0, g), (0, e), (0, (hIt b g e i).1), (1, (hIt b g e i).2), (3, 0), (0, (i : Int) + 1), a7, a8, (3, 0)]) ∧ CI xs m' X Y b kb ∧ FrK m m') ⟨⟨_, _, rfl⟩, hI, FrK_refl⟩ ?_ ?_
      · rintro i ls m1 hi ⟨⟨a7, a8, rfl⟩, c1, f1⟩ hn
        have es : hIt b g e (i + 1) = hStp b g e (1 * ((i : Int) + 1)) (hStp b g e (-1 * ((i : Int) + 1)) (hIt b g e i)) := rfl
        rw [es] at hn
        generalize hIt b g e i = st at *
        have one : ∀ (q : Int) (sg : Int) (st : Int × Int) (a8 : gV) (m1 : gM), (sg = -1 ∨ sg = 1) → q = sg * ((i : Int) + 1) → CI xs m1 X Y b kb → (∀ m2 a8', CI xs m2 X Y b kb → FrK m1 m2 → R (d + 14) M_X7_hedge 44 [(2, 0), (0, g), (0, e), (0, (hStp b g e q st).1), (1, (hStp b g e q st).2), (3, 0), (0, (i : Int) + 1), (0, sg + 2), a8', (3, 0)] [] (w0 L z X Y) m2 K) → R (d + 14) M_X7_hedge 44 [(2, 0), (0, g), (0, e), (0, st.1), (1, st.2), (3, 0), (0, (i : Int) + 1), (0, sg), a8, (3, 0)] [] (w0 L z X Y) m1 K := by
          intro q sg st a8 m1 hsg hq c1 hn1
          have ml : imul sg ((i : Int) + 1) = q := by
            rw [hq]
            rcases hsg with rfl | rfl
            · exact imul_ok (by omega) (by omega)
            · exact imul_ok (by omega) (by omega)
          rw [s_X7_hedge_44]
          simp (disch := first | assumption | omega | (simp (disch := omega) only [gU_row, gU_same, gU_i, gCp_row] <;> omega)) only [e_X7_hedge, s_X7_hedge_0, s_X7_hedge_1, s_X7_hedge_4, s_X7_hedge_7, s_X7_hedge_8, s_X7_hedge_9, s_X7_hedge_10, s_X7_hedge_13, s_X7_hedge_16, s_X7_hedge_17, s_X7_hedge_18, s_X7_hedge_19, s_X7_hedge_20, s_X7_hedge_21, s_X7_hedge_24, s_X7_hedge_27, s_X7_hedge_28, s_X7_hedge_29, s_X7_hedge_31, s_X7_hedge_32, s_X7_hedge_36, s_X7_hedge_38, s_X7_hedge_41, s_X7_hedge_42, s_X7_hedge_46, s_X7_hedge_47, s_X7_hedge_50, s_X7_hedge_51, s_X7_hedge_52, s_X7_hedge_53, s_X7_hedge_54, s_X7_hedge_55, s_X7_hedge_57, s_X7_hedge_59, s_X7_hedge_60, s_X7_hedge_63, s_X7_hedge_65, s_X7_hedge_67, s_X7_hedge_70, s_X7_hedge_71, s_X7_hedge_74, s_X7_hedge_76, s_X7_hedge_78, s_X7_hedge_79, s_X7_hedge_82, s_X7_hedge_84, s_X7_hedge_86, s_X7_hedge_88, s_X7_hedge_90, s_X7_hedge_91, s_X7_hedge_95, s_X7_hedge_98, s_X7_hedge_101, s_X7_hedge_104, s_X7_hedge_105, ↓reduceIte, Option.toList_some, Option.toList_none, List.cons_append, List.nil_append, List.singleton_append, List.append_nil, true_and, and_true, true_or, or_true, andT, iteT, iteF, itT, itF, zS_0, zP_0_0, zP_0_1, zP_0_2, zP_0_4, zP_0_5, zP_0_6, ml]
          refine p_would c1 hG (fun m2 c2 f2 => ?_)
          have hn2 := fun a8' => hn1 m2 a8' c2 f2
          unfold hStp at hn2
          generalize a_would (tTrade b g 0 e 0 q) = v at *
          unfold nNO at hn2
          by_cases hv : v = -9223372036854775808
          · rw [if_neg (by omega)] at hn2
            simp (disch := first | assumption | omega | (simp (disch := omega) only [gU_row, gU_same, gU_i, gCp_row] <;> omega)) only [e_X7_hedge, s_X7_hedge_0, s_X7_hedge_1, s_X7_hedge_4, s_X7_hedge_7, s_X7_hedge_8, s_X7_hedge_9, s_X7_hedge_10, s_X7_hedge_13, s_X7_hedge_16, s_X7_hedge_17, s_X7_hedge_18, s_X7_hedge_19, s_X7_hedge_20, s_X7_hedge_21, s_X7_hedge_24, s_X7_hedge_27, s_X7_hedge_28, s_X7_hedge_29, s_X7_hedge_31, s_X7_hedge_32, s_X7_hedge_36, s_X7_hedge_38, s_X7_hedge_41, s_X7_hedge_42, s_X7_hedge_46, s_X7_hedge_47, s_X7_hedge_50, s_X7_hedge_51, s_X7_hedge_52, s_X7_hedge_53, s_X7_hedge_54, s_X7_hedge_55, s_X7_hedge_57, s_X7_hedge_59, s_X7_hedge_60, s_X7_hedge_63, s_X7_hedge_65, s_X7_hedge_67, s_X7_hedge_70, s_X7_hedge_71, s_X7_hedge_74, s_X7_hedge_76, s_X7_hedge_78, s_X7_hedge_79, s_X7_hedge_82, s_X7_hedge_84, s_X7_hedge_86, s_X7_hedge_88, s_X7_hedge_90, s_X7_hedge_91, s_X7_hedge_95, s_X7_hedge_98, s_X7_hedge_101, s_X7_hedge_104, s_X7_hedge_105, ↓reduceIte, Option.toList_some, Option.toList_none, List.cons_append, List.nil_append, List.singleton_append, List.append_nil, true_and, and_true, true_or, or_true, andT, iteT, iteF, itT, itF, zS_0, zP_0_0, zP_0_1, zP_0_2, zP_0_4, zP_0_5, zP_0_6, lcmp_eq, hv]
            rw [s_X7_hedge_92]
            simp (disch := first | assumption | omega | (simp (disch := omega) only [gU_row, gU_same, gU_i, gCp_row] <;> omega)) only [e_X7_hedge, s_X7_hedge_0, s_X7_hedge_1, s_X7_hedge_4, s_X7_hedge_7, s_X7_hedge_8, s_X7_hedge_9, s_X7_hedge_10, s_X7_hedge_13, s_X7_hedge_16, s_X7_hedge_17, s_X7_hedge_18, s_X7_hedge_19, s_X7_hedge_20, s_X7_hedge_21, s_X7_hedge_24, s_X7_hedge_27, s_X7_hedge_28, s_X7_hedge_29, s_X7_hedge_31, s_X7_hedge_32, s_X7_hedge_36, s_X7_hedge_38, s_X7_hedge_41, s_X7_hedge_42, s_X7_hedge_46, s_X7_hedge_47, s_X7_hedge_50, s_X7_hedge_51, s_X7_hedge_52, s_X7_hedge_53, s_X7_hedge_54, s_X7_hedge_55, s_X7_hedge_57, s_X7_hedge_59, s_X7_hedge_60, s_X7_hedge_63, s_X7_hedge_65, s_X7_hedge_67, s_X7_hedge_70, s_X7_hedge_71, s_X7_hedge_74, s_X7_hedge_76, s_X7_hedge_78, s_X7_hedge_79, s_X7_hedge_82, s_X7_hedge_84, s_X7_hedge_86, s_X7_hedge_88, s_X7_hedge_90, s_X7_hedge_91, s_X7_hedge_95, s_X7_hedge_98, s_X7_hedge_101, s_X7_hedge_104, s_X7_hedge_105, ↓reduceIte, Option.toList_some, Option.toList_none, List.cons_append, List.nil_append, List.singleton_append, List.append_nil, true_and, and_true, true_or, or_true, andT, iteT, iteF, itT, itF, iadd_ok]
            exact hn2 _
          · by_cases hlt : v < st.2
            · rw [if_pos ⟨hv, hlt⟩] at hn2
              simp (disch := first | assumption | omega | (simp (disch := omega) only [gU_row, gU_same, gU_i, gCp_row] <;> omega)) only [e_X7_hedge, s_X7_hedge_0, s_X7_hedge_1, s_X7_hedge_4, s_X7_hedge_7, s_X7_hedge_8, s_X7_hedge_9, s_X7_hedge_10, s_X7_hedge_13, s_X7_hedge_16, s_X7_hedge_17, s_X7_hedge_18, s_X7_hedge_19, s_X7_hedge_20, s_X7_hedge_21, s_X7_hedge_24, s_X7_hedge_27, s_X7_hedge_28, s_X7_hedge_29, s_X7_hedge_31, s_X7_hedge_32, s_X7_hedge_36, s_X7_hedge_38, s_X7_hedge_41, s_X7_hedge_42, s_X7_hedge_46, s_X7_hedge_47, s_X7_hedge_50, s_X7_hedge_51, s_X7_hedge_52, s_X7_hedge_53, s_X7_hedge_54, s_X7_hedge_55, s_X7_hedge_57, s_X7_hedge_59, s_X7_hedge_60, s_X7_hedge_63, s_X7_hedge_65, s_X7_hedge_67, s_X7_hedge_70, s_X7_hedge_71, s_X7_hedge_74, s_X7_hedge_76, s_X7_hedge_78, s_X7_hedge_79, s_X7_hedge_82, s_X7_hedge_84, s_X7_hedge_86, s_X7_hedge_88, s_X7_hedge_90, s_X7_hedge_91, s_X7_hedge_95, s_X7_hedge_98, s_X7_hedge_101, s_X7_hedge_104, s_X7_hedge_105, ↓reduceIte, Option.toList_some, Option.toList_none, List.cons_append, List.nil_append, List.singleton_append, List.append_nil, true_and, and_true, true_or, or_true, andT, iteT, iteF, itT, itF, zS_0, zP_0_0, zP_0_1, zP_0_2, zP_0_4, zP_0_5, zP_0_6, lcmp_eq, lcmp_ge, ml]
              rw [s_X7_hedge_92]
              simp (disch := first | assumption | omega | (simp (disch := omega) only [gU_row, gU_same, gU_i, gCp_row] <;> omega)) only [e_X7_hedge, s_X7_hedge_0, s_X7_hedge_1, s_X7_hedge_4, s_X7_hedge_7, s_X7_hedge_8, s_X7_hedge_9, s_X7_hedge_10, s_X7_hedge_13, s_X7_hedge_16, s_X7_hedge_17, s_X7_hedge_18, s_X7_hedge_19, s_X7_hedge_20, s_X7_hedge_21, s_X7_hedge_24, s_X7_hedge_27, s_X7_hedge_28, s_X7_hedge_29, s_X7_hedge_31, s_X7_hedge_32, s_X7_hedge_36, s_X7_hedge_38, s_X7_hedge_41, s_X7_hedge_42, s_X7_hedge_46, s_X7_hedge_47, s_X7_hedge_50, s_X7_hedge_51, s_X7_hedge_52, s_X7_hedge_53, s_X7_hedge_54, s_X7_hedge_55, s_X7_hedge_57, s_X7_hedge_59, s_X7_hedge_60, s_X7_hedge_63, s_X7_hedge_65, s_X7_hedge_67, s_X7_hedge_70, s_X7_hedge_71, s_X7_hedge_74, s_X7_hedge_76, s_X7_hedge_78, s_X7_hedge_79, s_X7_hedge_82, s_X7_hedge_84, s_X7_hedge_86, s_X7_hedge_88, s_X7_hedge_90, s_X7_hedge_91, s_X7_hedge_95, s_X7_hedge_98, s_X7_hedge_101, s_X7_hedge_104, s_X7_hedge_105, ↓reduceIte, Option.toList_some, Option.toList_none, List.cons_append, List.nil_append, List.singleton_append, List.append_nil, true_and, and_true, true_or, or_true, andT, iteT, iteF, itT, itF, iadd_ok]
              exact hn2 _
            · rw [if_neg (by omega)] at hn2
              simp (disch := first | assumption | omega | (simp (disch := omega) only [gU_row, gU_same, gU_i, gCp_row] <;> omega)) only [e_X7_hedge, s_X7_hedge_0, s_X7_hedge_1, s_X7_hedge_4, s_X7_hedge_7, s_X7_hedge_8, s_X7_hedge_9, s_X7_hedge_10, s_X7_hedge_13, s_X7_hedge_16, s_X7_hedge_17, s_X7_hedge_18, s_X7_hedge_19, s_X7_hedge_20, s_X7_hedge_21, s_X7_hedge_24, s_X7_hedge_27, s_X7_hedge_28, s_X7_hedge_29, s_X7_hedge_31, s_X7_hedge_32, s_X7_hedge_36, s_X7_hedge_38, s_X7_hedge_41, s_X7_hedge_42, s_X7_hedge_46, s_X7_hedge_47, s_X7_hedge_50, s_X7_hedge_51, s_X7_hedge_52, s_X7_hedge_53, s_X7_hedge_54, s_X7_hedge_55, s_X7_hedge_57, s_X7_hedge_59, s_X7_hedge_60, s_X7_hedge_63, s_X7_hedge_65, s_X7_hedge_67, s_X7_hedge_70, s_X7_hedge_71, s_X7_hedge_74, s_X7_hedge_76, s_X7_hedge_78, s_X7_hedge_79, s_X7_hedge_82, s_X7_hedge_84, s_X7_hedge_86, s_X7_hedge_88, s_X7_hedge_90, s_X7_hedge_91, s_X7_hedge_95, s_X7_hedge_98, s_X7_hedge_101, s_X7_hedge_104, s_X7_hedge_105, ↓reduceIte, Option.toList_some, Option.toList_none, List.cons_append, List.nil_append, List.singleton_append, List.append_nil, true_and, and_true, true_or, or_true, andT, iteT, iteF, itT, itF, zS_0, zP_0_0, zP_0_1, zP_0_2, zP_0_4, zP_0_5, zP_0_6, lcmp_eq, lcmp_ge, ml]
              rw [s_X7_hedge_92]
              simp (disch := first | assumption | omega | (simp (disch := omega) only [gU_row, gU_same, gU_i, gCp_row] <;> omega)) only [e_X7_hedge, s_X7_hedge_0, s_X7_hedge_1, s_X7_hedge_4, s_X7_hedge_7, s_X7_hedge_8, s_X7_hedge_9, s_X7_hedge_10, s_X7_hedge_13, s_X7_hedge_16, s_X7_hedge_17, s_X7_hedge_18, s_X7_hedge_19, s_X7_hedge_20, s_X7_hedge_21, s_X7_hedge_24, s_X7_hedge_27, s_X7_hedge_28, s_X7_hedge_29, s_X7_hedge_31, s_X7_hedge_32, s_X7_hedge_36, s_X7_hedge_38, s_X7_hedge_41, s_X7_hedge_42, s_X7_hedge_46, s_X7_hedge_47, s_X7_hedge_50, s_X7_hedge_51, s_X7_hedge_52, s_X7_hedge_53, s_X7_hedge_54, s_X7_hedge_55, s_X7_hedge_57, s_X7_hedge_59, s_X7_hedge_60, s_X7_hedge_63, s_X7_hedge_65, s_X7_hedge_67, s_X7_hedge_70, s_X7_hedge_71, s_X7_hedge_74, s_X7_hedge_76, s_X7_hedge_78, s_X7_hedge_79, s_X7_hedge_82, s_X7_hedge_84, s_X7_hedge_86, s_X7_hedge_88, s_X7_hedge_90, s_X7_hedge_91, s_X7_hedge_95, s_X7_hedge_98, s_X7_hedge_101, s_X7_hedge_104, s_X7_hedge_105, ↓reduceIte, Option.toList_some, Option.toList_none, List.cons_append, List.nil_append, List.singleton_append, List.append_nil, true_and, and_true, true_or, or_true, andT, iteT, iteF, itT, itF, iadd_ok]
              exact hn2 _
        rw [s_X7_hedge_34]
        simp (disch := first | assumption | omega | (simp (disch := omega) only [gU_row, gU_same, gU_i, gCp_row] <;> omega)) only [e_X7_hedge, s_X7_hedge_0, s_X7_hedge_1, s_X7_hedge_4, s_X7_hedge_7, s_X7_hedge_8, s_X7_hedge_9, s_X7_hedge_10, s_X7_hedge_13, s_X7_hedge_16, s_X7_hedge_17, s_X7_hedge_18, s_X7_hedge_19, s_X7_hedge_20, s_X7_hedge_21, s_X7_hedge_24, s_X7_hedge_27, s_X7_hedge_28, s_X7_hedge_29, s_X7_hedge_31, s_X7_hedge_32, s_X7_hedge_36, s_X7_hedge_38, s_X7_hedge_41, s_X7_hedge_42, s_X7_hedge_46, s_X7_hedge_47, s_X7_hedge_50, s_X7_hedge_51, s_X7_hedge_52, s_X7_hedge_53, s_X7_hedge_54, s_X7_hedge_55, s_X7_hedge_57, s_X7_hedge_59, s_X7_hedge_60, s_X7_hedge_63, s_X7_hedge_65, s_X7_hedge_67, s_X7_hedge_70, s_X7_hedge_71, s_X7_hedge_74, s_X7_hedge_76, s_X7_hedge_78, s_X7_hedge_79, s_X7_hedge_82, s_X7_hedge_84, s_X7_hedge_86, s_X7_hedge_88, s_X7_hedge_90, s_X7_hedge_91, s_X7_hedge_95, s_X7_hedge_98, s_X7_hedge_101, s_X7_hedge_104, s_X7_hedge_105, ↓reduceIte, Option.toList_some, Option.toList_none, List.cons_append, List.nil_append, List.singleton_append, List.append_nil, true_and, and_true, true_or, or_true, andT, iteT, iteF, itT, itF]
        refine one (-1 * ((i : Int) + 1)) (-1) st a8 m1 (Or.inl rfl) rfl c1 (fun m2 a2 c2 f2 => ?_)
        refine one (1 * ((i : Int) + 1)) 1 _ a2 m2 (Or.inr rfl) rfl c2 (fun m3 a3 c3 f3 => ?_)
        rw [s_X7_hedge_44]
        simp (disch := first | assumption | omega | (simp (disch := omega) only [gU_row, gU_same, gU_i, gCp_row] <;> omega)) only [e_X7_hedge, s_X7_hedge_0, s_X7_hedge_1, s_X7_hedge_4, s_X7_hedge_7, s_X7_hedge_8, s_X7_hedge_9, s_X7_hedge_10, s_X7_hedge_13, s_X7_hedge_16, s_X7_hedge_17, s_X7_hedge_18, s_X7_hedge_19, s_X7_hedge_20, s_X7_hedge_21, s_X7_hedge_24, s_X7_hedge_27, s_X7_hedge_28, s_X7_hedge_29, s_X7_hedge_31, s_X7_hedge_32, s_X7_hedge_36, s_X7_hedge_38, s_X7_hedge_41, s_X7_hedge_42, s_X7_hedge_46, s_X7_hedge_47, s_X7_hedge_50, s_X7_hedge_51, s_X7_hedge_52, s_X7_hedge_53, s_X7_hedge_54, s_X7_hedge_55, s_X7_hedge_57, s_X7_hedge_59, s_X7_hedge_60, s_X7_hedge_63, s_X7_hedge_65, s_X7_hedge_67, s_X7_hedge_70, s_X7_hedge_71, s_X7_hedge_74, s_X7_hedge_76, s_X7_hedge_78, s_X7_hedge_79, s_X7_hedge_82, s_X7_hedge_84, s_X7_hedge_86, s_X7_hedge_88, s_X7_hedge_90, s_X7_hedge_91, s_X7_hedge_95, s_X7_hedge_98, s_X7_hedge_101, s_X7_hedge_104, s_X7_hedge_105, ↓reduceIte, Option.toList_some, Option.toList_none, List.cons_append, List.nil_append, List.singleton_append, List.append_nil, true_and, and_true, true_or, or_true, andT, iteT, iteF, itT, itF, iadd_ok]
        exact hn _ _ ⟨⟨_, _, rfl⟩, c3, FrK_trans f1 (FrK_trans f2 f3)⟩
      · rintro ls m1 ⟨⟨a7, a8, rfl⟩, c1, f1⟩
        rw [s_X7_hedge_34]
        simp (disch := first | assumption | omega | (simp (disch := omega) only [gU_row, gU_same, gU_i, gCp_row] <;> omega)) only [e_X7_hedge, s_X7_hedge_0, s_X7_hedge_1, s_X7_hedge_4, s_X7_hedge_7, s_X7_hedge_8, s_X7_hedge_9, s_X7_hedge_10, s_X7_hedge_13, s_X7_hedge_16, s_X7_hedge_17, s_X7_hedge_18, s_X7_hedge_19, s_X7_hedge_20, s_X7_hedge_21, s_X7_hedge_24, s_X7_hedge_27, s_X7_hedge_28, s_X7_hedge_29, s_X7_hedge_31, s_X7_hedge_32, s_X7_hedge_36, s_X7_hedge_38, s_X7_hedge_41, s_X7_hedge_42, s_X7_hedge_46, s_X7_hedge_47, s_X7_hedge_50, s_X7_hedge_51, s_X7_hedge_52, s_X7_hedge_53, s_X7_hedge_54, s_X7_hedge_55, s_X7_hedge_57, s_X7_hedge_59, s_X7_hedge_60, s_X7_hedge_63, s_X7_hedge_65, s_X7_hedge_67, s_X7_hedge_70, s_X7_hedge_71, s_X7_hedge_74, s_X7_hedge_76, s_X7_hedge_78, s_X7_hedge_79, s_X7_hedge_82, s_X7_hedge_84, s_X7_hedge_86, s_X7_hedge_88, s_X7_hedge_90, s_X7_hedge_91, s_X7_hedge_95, s_X7_hedge_98, s_X7_hedge_101, s_X7_hedge_104, s_X7_hedge_105, ↓reduceIte, Option.toList_some, Option.toList_none, List.cons_append, List.nil_append, List.singleton_append, List.append_nil, true_and, and_true, true_or, or_true, andT, iteT, iteF, itT, itF]
        exact hk m1 c1 f1
    · rw [if_neg (fun h => h2 h.2)] at hk
      simp (disch := first | assumption | omega | (simp (disch := omega) only [gU_row, gU_same, gU_i, gCp_row] <;> omega)) only [e_X7_hedge, s_X7_hedge_0, s_X7_hedge_1, s_X7_hedge_4, s_X7_hedge_7, s_X7_hedge_8, s_X7_hedge_9, s_X7_hedge_10, s_X7_hedge_13, s_X7_hedge_16, s_X7_hedge_17, s_X7_hedge_18, s_X7_hedge_19, s_X7_hedge_20, s_X7_hedge_21, s_X7_hedge_24, s_X7_hedge_27, s_X7_hedge_28, s_X7_hedge_29, s_X7_hedge_31, s_X7_hedge_32, s_X7_hedge_36, s_X7_hedge_38, s_X7_hedge_41, s_X7_hedge_42, s_X7_hedge_46, s_X7_hedge_47, s_X7_hedge_50, s_X7_hedge_51, s_X7_hedge_52, s_X7_hedge_53, s_X7_hedge_54, s_X7_hedge_55, s_X7_hedge_57, s_X7_hedge_59, s_X7_hedge_60, s_X7_hedge_63, s_X7_hedge_65, s_X7_hedge_67, s_X7_hedge_70, s_X7_hedge_71, s_X7_hedge_74, s_X7_hedge_76, s_X7_hedge_78, s_X7_hedge_79, s_X7_hedge_82, s_X7_hedge_84, s_X7_hedge_86, s_X7_hedge_88, s_X7_hedge_90, s_X7_hedge_91, s_X7_hedge_95, s_X7_hedge_98, s_X7_hedge_101, s_X7_hedge_104, s_X7_hedge_105, ↓reduceIte, Option.toList_some, Option.toList_none, List.cons_append, List.nil_append, List.singleton_append, List.append_nil, true_and, and_true, true_or, or_true, andT, iteT, iteF, itT, itF, zS_0, zP_0_0, zP_0_1, zP_0_2, zP_0_4, zP_0_5, zP_0_6, within_T, within_F, isGround_T, isGround_F, isTape_T, isTape_F, ne_eq, not_true_eq_false, not_false_eq_true]
      exact hk m hI FrK_refl
  · rw [if_neg (fun h => h1 h.1)] at hk
    simp (disch := first | assumption | omega | (simp (disch := omega) only [gU_row, gU_same, gU_i, gCp_row] <;> omega)) only [e_X7_hedge, s_X7_hedge_0, s_X7_hedge_1, s_X7_hedge_4, s_X7_hedge_7, s_X7_hedge_8, s_X7_hedge_9, s_X7_hedge_10, s_X7_hedge_13, s_X7_hedge_16, s_X7_hedge_17, s_X7_hedge_18, s_X7_hedge_19, s_X7_hedge_20, s_X7_hedge_21, s_X7_hedge_24, s_X7_hedge_27, s_X7_hedge_28, s_X7_hedge_29, s_X7_hedge_31, s_X7_hedge_32, s_X7_hedge_36, s_X7_hedge_38, s_X7_hedge_41, s_X7_hedge_42, s_X7_hedge_46, s_X7_hedge_47, s_X7_hedge_50, s_X7_hedge_51, s_X7_hedge_52, s_X7_hedge_53, s_X7_hedge_54, s_X7_hedge_55, s_X7_hedge_57, s_X7_hedge_59, s_X7_hedge_60, s_X7_hedge_63, s_X7_hedge_65, s_X7_hedge_67, s_X7_hedge_70, s_X7_hedge_71, s_X7_hedge_74, s_X7_hedge_76, s_X7_hedge_78, s_X7_hedge_79, s_X7_hedge_82, s_X7_hedge_84, s_X7_hedge_86, s_X7_hedge_88, s_X7_hedge_90, s_X7_hedge_91, s_X7_hedge_95, s_X7_hedge_98, s_X7_hedge_101, s_X7_hedge_104, s_X7_hedge_105, ↓reduceIte, Option.toList_some, Option.toList_none, List.cons_append, List.nil_append, List.singleton_append, List.append_nil, true_and, and_true, true_or, or_true, andT, iteT, iteF, itT, itF, zS_0, zP_0_0, zP_0_1, zP_0_2, zP_0_4, zP_0_5, zP_0_6, within_T, within_F, isGround_T, isGround_F, isTape_T, isTape_F, ne_eq, not_true_eq_false, not_false_eq_true]
    exact hk m hI FrK_refl
theorem gcd_s {A B : Nat} : Nat.gcd B (A % B) = Nat.gcd A B := by
  rw [Nat.gcd_comm A B, Nat.gcd_rec B A, Nat.gcd_comm]
theorem lrem_nat {A B : Nat} (h1 : A ≤ 2147483648) (h2 : B ≤ 2147483648) (h3 : 0 < B) : lrem (A : Int) (B : Int) = ((A % B : Nat) : Int) := by
  have e : (A : Int).tmod (B : Int) = ((A % B : Nat) : Int) := Int.tmod_eq_emod_of_nonneg (by omega)
  have l := Nat.mod_lt A h3
  rw [lrem_ok ⟨by omega, by omega⟩ ⟨by omega, by omega⟩ (by rw [e]; exact ⟨by omega, by omega⟩), e]
theorem mod_half {A B : Nat} (h1 : B ≤ A) (h3 : 0 < B) : 2 * (B * (A % B)) ≤ A * B ∧ A % B ≤ B ∧ A % B < B := by
  have l := Nat.mod_lt A h3
  have e := Nat.mod_add_div A B
  have dp := Nat.div_pos h1 h3
  have m1 := Nat.mul_le_mul_left B dp
  have h : 2 * (A % B) ≤ A := by omega
  have := Nat.mul_le_mul_right B h
  refine ⟨?_, by omega, l⟩
  rw [Nat.mul_comm B, ← Nat.mul_assoc]
  exact this
set_option maxHeartbeats 400000 in
theorem c_common {A B : Nat} (h0 : 0 < A) (h1 : B ≤ A) (h2 : A ≤ 2147483648) (hk : K (some (1, (Nat.gcd A B : Int))) w m) : C (d + 1) M_X7_commonDivisor [(1, (A : Int)), (1, (B : Int))] w m K := by
  simp (disch := first | assumption | omega | (simp (disch := omega) only [gU_row, gU_same, gU_i, gCp_row] <;> omega)) only [e_X7_commonDivisor, s_X7_commonDivisor_0, s_X7_commonDivisor_1, s_X7_commonDivisor_5, s_X7_commonDivisor_7, s_X7_commonDivisor_10, s_X7_commonDivisor_11, s_X7_commonDivisor_12, s_X7_commonDivisor_13, s_X7_commonDivisor_16, s_X7_commonDivisor_17, s_X7_commonDivisor_18, s_X7_commonDivisor_19, s_X7_commonDivisor_21, s_X7_commonDivisor_22, s_X7_commonDivisor_23, s_X7_commonDivisor_25, s_X7_commonDivisor_26, s_X7_commonDivisor_29, s_X7_commonDivisor_32, s_X7_commonDivisor_33, ↓reduceIte, Option.toList_some, Option.toList_none, List.cons_append, List.nil_append, List.singleton_append, List.append_nil, true_and, and_true, true_or, or_true, andT, iteT, iteF, itT, itF]
  refine R_for0 100 (fun i ls m' => (∃ (a' b' : Nat) (u5 : gV), ls = [(1, (a' : Int)), (3, 0), (1, (b' : Int)), (3, 0), (0, (i : Int)), u5, (3, 0)] ∧ 0 < a' ∧ b' ≤ a' ∧ a' ≤ A ∧ a' * b' * 2 ^ i ≤ A * B ∧ Nat.gcd a' b' = Nat.gcd A B) ∧ m' = m) ⟨⟨A, B, _, rfl, h0, h1, Nat.le_refl _, by omega, rfl⟩, rfl⟩ ?_ ?_
  · rintro i ls m1 hi ⟨⟨a', b', u5, rfl, p0, p1, p2, p3, p4⟩, rfl⟩ hn
    rw [s_X7_commonDivisor_3]
    by_cases hb : b' = 0
    · subst hb
      rw [Nat.gcd_zero_right] at p4
      simp (disch := first | assumption | omega | (simp (disch := omega) only [gU_row, gU_same, gU_i, gCp_row] <;> omega)) only [e_X7_commonDivisor, s_X7_commonDivisor_0, s_X7_commonDivisor_1, s_X7_commonDivisor_5, s_X7_commonDivisor_7, s_X7_commonDivisor_10, s_X7_commonDivisor_11, s_X7_commonDivisor_12, s_X7_commonDivisor_13, s_X7_commonDivisor_16, s_X7_commonDivisor_17, s_X7_commonDivisor_18, s_X7_commonDivisor_19, s_X7_commonDivisor_21, s_X7_commonDivisor_22, s_X7_commonDivisor_23, s_X7_commonDivisor_25, s_X7_commonDivisor_26, s_X7_commonDivisor_29, s_X7_commonDivisor_32, s_X7_commonDivisor_33, ↓reduceIte, Option.toList_some, Option.toList_none, List.cons_append, List.nil_append, List.singleton_append, List.append_nil, true_and, and_true, true_or, or_true, andT, iteT, iteF, itT, itF, lcmp_eq]
      rw [p4]
      exact hk
    · have hr := lrem_nat (A := a') (B := b') (by omega) (by omega) (by omega)
      have hh := mod_half p1 (show 0 < b' by omega)
      simp (disch := first | assumption | omega | (simp (disch := omega) only [gU_row, gU_same, gU_i, gCp_row] <;> omega)) only [e_X7_commonDivisor, s_X7_commonDivisor_0, s_X7_commonDivisor_1, s_X7_commonDivisor_5, s_X7_commonDivisor_7, s_X7_commonDivisor_10, s_X7_commonDivisor_11, s_X7_commonDivisor_12, s_X7_commonDivisor_13, s_X7_commonDivisor_16, s_X7_commonDivisor_17, s_X7_commonDivisor_18, s_X7_commonDivisor_19, s_X7_commonDivisor_21, s_X7_commonDivisor_22, s_X7_commonDivisor_23, s_X7_commonDivisor_25, s_X7_commonDivisor_26, s_X7_commonDivisor_29, s_X7_commonDivisor_32, s_X7_commonDivisor_33, ↓reduceIte, Option.toList_some, Option.toList_none, List.cons_append, List.nil_append, List.singleton_append, List.append_nil, true_and, and_true, true_or, or_true, andT, iteT, iteF, itT, itF, lcmp_eq, hr, iadd_ok]
      refine hn _ _ ⟨⟨b', a' % b', _, rfl, by omega, hh.2.1, by omega, ?_, by rw [gcd_s]; exact p4⟩, rfl⟩
      have := Nat.mul_le_mul_right (2 ^ i) hh.1
      rw [Nat.pow_succ]
      have e : b' * (a' % b') * (2 ^ i * 2) = 2 * (b' * (a' % b')) * 2 ^ i := by
        rw [Nat.mul_comm (2 ^ i) 2, ← Nat.mul_assoc, Nat.mul_comm _ 2]
      omega
  · rintro ls m1 ⟨⟨a', b', u5, rfl, p0, p1, p2, p3, p4⟩, rfl⟩
    have hb : b' = 0 := by
      rcases Nat.eq_zero_or_pos b' with h | h
      · exact h
      · have q1 : 1 ≤ a' * b' := Nat.mul_pos p0 h
        have q2 := Nat.mul_le_mul_right (2 ^ 100) q1
        have q3 := Nat.mul_le_mul (Nat.le_trans h1 h2) h2
        have q4 := Nat.mul_comm A B
        have : (2 : Nat) ^ 100 = 1267650600228229401496703205376 := by decide
        omega
    clear p3
    subst hb
    rw [Nat.gcd_zero_right] at p4
    rw [s_X7_commonDivisor_3]
    simp (disch := first | assumption | omega | (simp (disch := omega) only [gU_row, gU_same, gU_i, gCp_row] <;> omega)) only [e_X7_commonDivisor, s_X7_commonDivisor_0, s_X7_commonDivisor_1, s_X7_commonDivisor_5, s_X7_commonDivisor_7, s_X7_commonDivisor_10, s_X7_commonDivisor_11, s_X7_commonDivisor_12, s_X7_commonDivisor_13, s_X7_commonDivisor_16, s_X7_commonDivisor_17, s_X7_commonDivisor_18, s_X7_commonDivisor_19, s_X7_commonDivisor_21, s_X7_commonDivisor_22, s_X7_commonDivisor_23, s_X7_commonDivisor_25, s_X7_commonDivisor_26, s_X7_commonDivisor_29, s_X7_commonDivisor_32, s_X7_commonDivisor_33, ↓reduceIte, Option.toList_some, Option.toList_none, List.cons_append, List.nil_append, List.singleton_append, List.append_nil, true_and, and_true, true_or, or_true, andT, iteT, iteF, itT, itF, lcmp_eq]
    rw [p4]
    exact hk
theorem scans_ge (hf : Fine b) (g0 : 0 ≤ g) (g1 : g ≤ 4) : 0 ≤ pScan b g ∧ pScan b g ≤ pScansN b 5 ∧ pScansN b 5 ≤ 2147483647 := by
  have a0 := GroundOk_scan (hf.2.2.1 0 (by omega) (by omega))
  have a1 := GroundOk_scan (hf.2.2.1 1 (by omega) (by omega))
  have a2 := GroundOk_scan (hf.2.2.1 2 (by omega) (by omega))
  have a3 := GroundOk_scan (hf.2.2.1 3 (by omega) (by omega))
  have a4 := GroundOk_scan (hf.2.2.1 4 (by omega) (by omega))
  have e : pScansN b 5 = 0 + pScan b 0 + pScan b 1 + pScan b 2 + pScan b 3 + pScan b 4 := rfl
  have h := hf.2.2.2.1.2.1
  unfold okI at h
  have hg : g = 0 ∨ g = 1 ∨ g = 2 ∨ g = 3 ∨ g = 4 := by omega
  rcases hg with rfl | rfl | rfl | rfl | rfl <;> omega
set_option maxHeartbeats 400000 in
theorem p_share (hI : CI xs m X Y b kb) (hG : GB b) (hk : K (some (1, a_share b g t)) (w0 L z X Y) m) : C (d + 3) M_X7_share [(2, 0), (0, g), (0, t)] (w0 L z X Y) m K := by
  have hI' := hI
  obtain ⟨⟨hX, hY, hne⟩, hbX, ⟨b2, hbY⟩, hbK, hD, hst⟩ := hI'
  have hG' := hG
  obtain ⟨hW, hf⟩ := hG'
  have hqX := BB_r hX
  have hqY := BB_r hY
  have x0 := RB_bd hX
  have y0 := RB_bd hY
  have e1 := hD.1.2.2.1
  unfold a_share at hk
  by_cases h1 : 0 ≤ g ∧ g ≤ 4
  · by_cases h2 : 0 ≤ t ∧ t ≤ 1
    · have sg := scans_ge hf h1.1 h1.2
      by_cases h3 : 0 < pScansN b 5
      · have e2 := (hD.1.1.2 g h1.1 (by omega)).2.1
        rw [if_pos ⟨h1, h2, h3⟩] at hk
        have n1 : (((pScansN b 5).toNat : Nat) : Int) = pScansN b 5 := by omega
        have n2 : (((pScan b g).toNat : Nat) : Int) = pScan b g := by omega
        have gp := Nat.gcd_pos_of_pos_left (pScan b g).toNat (show 0 < (pScansN b 5).toNat by omega)
        have gl := Nat.gcd_le_left (pScan b g).toNat (show 0 < (pScansN b 5).toNat by omega)
        have hcm := fun K' hk' => c_common (d := d + 1) (w := w0 L z X Y) (m := m) (K := K') (A := (pScansN b 5).toNat) (B := (pScan b g).toNat) (by omega) (by omega) (by omega) hk'
        rw [n1, n2] at hcm
        simp (disch := first | assumption | omega | (simp (disch := omega) only [gU_row, gU_same, gU_i, gCp_row] <;> omega)) only [e_X7_share, s_X7_share_0, s_X7_share_1, s_X7_share_4, s_X7_share_7, s_X7_share_8, s_X7_share_9, s_X7_share_10, s_X7_share_11, s_X7_share_14, s_X7_share_17, s_X7_share_18, s_X7_share_19, s_X7_share_20, s_X7_share_23, s_X7_share_26, s_X7_share_27, s_X7_share_28, s_X7_share_29, s_X7_share_32, s_X7_share_35, s_X7_share_36, s_X7_share_37, s_X7_share_38, s_X7_share_41, s_X7_share_44, s_X7_share_45, s_X7_share_46, s_X7_share_49, s_X7_share_51, s_X7_share_53, s_X7_share_54, s_X7_share_55, s_X7_share_58, s_X7_share_61, s_X7_share_62, s_X7_share_63, s_X7_share_66, s_X7_share_67, s_X7_share_70, s_X7_share_73, s_X7_share_74, s_X7_share_75, s_X7_share_78, s_X7_share_79, s_X7_share_81, s_X7_share_82, ↓reduceIte, Option.toList_some, Option.toList_none, List.cons_append, List.nil_append, List.singleton_append, List.append_nil, true_and, and_true, true_or, or_true, andT, iteT, iteF, itT, itF, zS_0, zP_0_0, zP_0_1, zP_0_2, zP_0_4, zP_0_5, zP_0_6, within_T, within_F, isGround_T, isGround_F, isTape_T, isTape_F, ne_eq, not_true_eq_false, not_false_eq_true, zS_r0 hX, zP_r0_0 hX, zP_r0_1 hX, zP_r0_2 hX, zP_r0_3 hX, zP_r0_4 hX, zP_r0_5 hX, zP_r0_6 hX, zP_r0_7 hX, zP_r0_8 hX, zP_r0_9 hX, zP_r0_10 hX, zP_r0_11 hX, zP_r0_12 hX, zP_r0_13 hX, zP_r0_14 hX, zP_r0_15 hX, zS_r14 hX, zP_r14_1 hX, zP_r14_2 hX, zP_r14_3 hX, zP_r14_4 hX, zP_r14_6 hX, zP_r14_7 hX, zP_r14_8 hX, zP_r14_9 hX, zP_r14_10 hX, zP_r14_11 hX, zP_r14_12 hX, zP_r14_13 hX, zP_r14_14 hX, zP_r14_15 hX, zS_r15 hX, zS_r16 hX, zS_r17 hX, zS_r18 hX, zS_r19 hX, zS_r20 hX, zS_r21 hX, zS_r22 hX, zS_r23 hX, zS_r24 hX, zS_r25 hX, zS_r26 hX, zS_r27 hX, zS_r28 hX, zS_r29 hX, zS_r54 hX, zS_r55 hX, zS_r61 hX, zS_r67 hX, zS_r68 hX, zS_r69 hX, zS_r70 hX, zS_r71 hX, zS_r72 hX, zS_r73 hX, zS_r79 hX, zS_r85 hX, zS_r86 hX, e1, e2, lcmp_gt]
        refine hcm _ ?_
        generalize Nat.gcd (pScansN b 5).toNat (pScan b g).toNat = G at *
        by_cases h4 : t = 0
        · rw [if_pos h4] at hk
          simp (disch := first | assumption | omega | (simp (disch := omega) only [gU_row, gU_same, gU_i, gCp_row] <;> omega)) only [e_X7_share, s_X7_share_0, s_X7_share_1, s_X7_share_4, s_X7_share_7, s_X7_share_8, s_X7_share_9, s_X7_share_10, s_X7_share_11, s_X7_share_14, s_X7_share_17, s_X7_share_18, s_X7_share_19, s_X7_share_20, s_X7_share_23, s_X7_share_26, s_X7_share_27, s_X7_share_28, s_X7_share_29, s_X7_share_32, s_X7_share_35, s_X7_share_36, s_X7_share_37, s_X7_share_38, s_X7_share_41, s_X7_share_44, s_X7_share_45, s_X7_share_46, s_X7_share_49, s_X7_share_51, s_X7_share_53, s_X7_share_54, s_X7_share_55, s_X7_share_58, s_X7_share_61, s_X7_share_62, s_X7_share_63, s_X7_share_66, s_X7_share_67, s_X7_share_70, s_X7_share_73, s_X7_share_74, s_X7_share_75, s_X7_share_78, s_X7_share_79, s_X7_share_81, s_X7_share_82, ↓reduceIte, Option.toList_some, Option.toList_none, List.cons_append, List.nil_append, List.singleton_append, List.append_nil, true_and, and_true, true_or, or_true, andT, iteT, iteF, itT, itF, zS_0, zP_0_0, zP_0_1, zP_0_2, zP_0_4, zP_0_5, zP_0_6, zS_r0 hX, zP_r0_0 hX, zP_r0_1 hX, zP_r0_2 hX, zP_r0_3 hX, zP_r0_4 hX, zP_r0_5 hX, zP_r0_6 hX, zP_r0_7 hX, zP_r0_8 hX, zP_r0_9 hX, zP_r0_10 hX, zP_r0_11 hX, zP_r0_12 hX, zP_r0_13 hX, zP_r0_14 hX, zP_r0_15 hX, zS_r14 hX, zP_r14_1 hX, zP_r14_2 hX, zP_r14_3 hX, zP_r14_4 hX, zP_r14_6 hX, zP_r14_7 hX, zP_r14_8 hX, zP_r14_9 hX, zP_r14_10 hX, zP_r14_11 hX, zP_r14_12 hX, zP_r14_13 hX, zP_r14_14 hX, zP_r14_15 hX, zS_r15 hX, zS_r16 hX, zS_r17 hX, zS_r18 hX, zS_r19 hX, zS_r20 hX, zS_r21 hX, zS_r22 hX, zS_r23 hX, zS_r24 hX, zS_r25 hX, zS_r26 hX, zS_r27 hX, zS_r28 hX, zS_r29 hX, zS_r54 hX, zS_r55 hX, zS_r61 hX, zS_r67 hX, zS_r68 hX, zS_r69 hX, zS_r70 hX, zS_r71 hX, zS_r72 hX, zS_r73 hX, zS_r79 hX, zS_r85 hX, zS_r86 hX, e1, e2, lcmp_gt, ldiv_lit, td_nn, h4]
          exact hk
        · rw [if_neg h4] at hk
          simp (disch := first | assumption | omega | (simp (disch := omega) only [gU_row, gU_same, gU_i, gCp_row] <;> omega)) only [e_X7_share, s_X7_share_0, s_X7_share_1, s_X7_share_4, s_X7_share_7, s_X7_share_8, s_X7_share_9, s_X7_share_10, s_X7_share_11, s_X7_share_14, s_X7_share_17, s_X7_share_18, s_X7_share_19, s_X7_share_20, s_X7_share_23, s_X7_share_26, s_X7_share_27, s_X7_share_28, s_X7_share_29, s_X7_share_32, s_X7_share_35, s_X7_share_36, s_X7_share_37, s_X7_share_38, s_X7_share_41, s_X7_share_44, s_X7_share_45, s_X7_share_46, s_X7_share_49, s_X7_share_51, s_X7_share_53, s_X7_share_54, s_X7_share_55, s_X7_share_58, s_X7_share_61, s_X7_share_62, s_X7_share_63, s_X7_share_66, s_X7_share_67, s_X7_share_70, s_X7_share_73, s_X7_share_74, s_X7_share_75, s_X7_share_78, s_X7_share_79, s_X7_share_81, s_X7_share_82, ↓reduceIte, Option.toList_some, Option.toList_none, List.cons_append, List.nil_append, List.singleton_append, List.append_nil, true_and, and_true, true_or, or_true, andT, iteT, iteF, itT, itF, zS_0, zP_0_0, zP_0_1, zP_0_2, zP_0_4, zP_0_5, zP_0_6, zS_r0 hX, zP_r0_0 hX, zP_r0_1 hX, zP_r0_2 hX, zP_r0_3 hX, zP_r0_4 hX, zP_r0_5 hX, zP_r0_6 hX, zP_r0_7 hX, zP_r0_8 hX, zP_r0_9 hX, zP_r0_10 hX, zP_r0_11 hX, zP_r0_12 hX, zP_r0_13 hX, zP_r0_14 hX, zP_r0_15 hX, zS_r14 hX, zP_r14_1 hX, zP_r14_2 hX, zP_r14_3 hX, zP_r14_4 hX, zP_r14_6 hX, zP_r14_7 hX, zP_r14_8 hX, zP_r14_9 hX, zP_r14_10 hX, zP_r14_11 hX, zP_r14_12 hX, zP_r14_13 hX, zP_r14_14 hX, zP_r14_15 hX, zS_r15 hX, zS_r16 hX, zS_r17 hX, zS_r18 hX, zS_r19 hX, zS_r20 hX, zS_r21 hX, zS_r22 hX, zS_r23 hX, zS_r24 hX, zS_r25 hX, zS_r26 hX, zS_r27 hX, zS_r28 hX, zS_r29 hX, zS_r54 hX, zS_r55 hX, zS_r61 hX, zS_r67 hX, zS_r68 hX, zS_r69 hX, zS_r70 hX, zS_r71 hX, zS_r72 hX, zS_r73 hX, zS_r79 hX, zS_r85 hX, zS_r86 hX, e1, e2, lcmp_gt, ldiv_lit, td_nn]
          exact hk
      · rw [if_neg (fun h => h3 h.2.2)] at hk
        simp (disch := first | assumption | omega | (simp (disch := omega) only [gU_row, gU_same, gU_i, gCp_row] <;> omega)) only [e_X7_share, s_X7_share_0, s_X7_share_1, s_X7_share_4, s_X7_share_7, s_X7_share_8, s_X7_share_9, s_X7_share_10, s_X7_share_11, s_X7_share_14, s_X7_share_17, s_X7_share_18, s_X7_share_19, s_X7_share_20, s_X7_share_23, s_X7_share_26, s_X7_share_27, s_X7_share_28, s_X7_share_29, s_X7_share_32, s_X7_share_35, s_X7_share_36, s_X7_share_37, s_X7_share_38, s_X7_share_41, s_X7_share_44, s_X7_share_45, s_X7_share_46, s_X7_share_49, s_X7_share_51, s_X7_share_53, s_X7_share_54, s_X7_share_55, s_X7_share_58, s_X7_share_61, s_X7_share_62, s_X7_share_63, s_X7_share_66, s_X7_share_67, s_X7_share_70, s_X7_share_73, s_X7_share_74, s_X7_share_75, s_X7_share_78, s_X7_share_79, s_X7_share_81, s_X7_share_82, ↓reduceIte, Option.toList_some, Option.toList_none, List.cons_append, List.nil_append, List.singleton_append, List.append_nil, true_and, and_true, true_or, or_true, andT, iteT, iteF, itT, itF, zS_0, zP_0_0, zP_0_1, zP_0_2, zP_0_4, zP_0_5, zP_0_6, within_T, within_F, isGround_T, isGround_F, isTape_T, isTape_F, ne_eq, not_true_eq_false, not_false_eq_true, zS_r0 hX, zP_r0_0 hX, zP_r0_1 hX, zP_r0_2 hX, zP_r0_3 hX, zP_r0_4 hX, zP_r0_5 hX, zP_r0_6 hX, zP_r0_7 hX, zP_r0_8 hX, zP_r0_9 hX, zP_r0_10 hX, zP_r0_11 hX, zP_r0_12 hX, zP_r0_13 hX, zP_r0_14 hX, zP_r0_15 hX, zS_r14 hX, zP_r14_1 hX, zP_r14_2 hX, zP_r14_3 hX, zP_r14_4 hX, zP_r14_6 hX, zP_r14_7 hX, zP_r14_8 hX, zP_r14_9 hX, zP_r14_10 hX, zP_r14_11 hX, zP_r14_12 hX, zP_r14_13 hX, zP_r14_14 hX, zP_r14_15 hX, zS_r15 hX, zS_r16 hX, zS_r17 hX, zS_r18 hX, zS_r19 hX, zS_r20 hX, zS_r21 hX, zS_r22 hX, zS_r23 hX, zS_r24 hX, zS_r25 hX, zS_r26 hX, zS_r27 hX, zS_r28 hX, zS_r29 hX, zS_r54 hX, zS_r55 hX, zS_r61 hX, zS_r67 hX, zS_r68 hX, zS_r69 hX, zS_r70 hX, zS_r71 hX, zS_r72 hX, zS_r73 hX, zS_r79 hX, zS_r85 hX, zS_r86 hX, e1, lcmp_gt]
        exact hk
    · rw [if_neg (fun h => h2 h.2.1)] at hk
      simp (disch := first | assumption | omega | (simp (disch := omega) only [gU_row, gU_same, gU_i, gCp_row] <;> omega)) only [e_X7_share, s_X7_share_0, s_X7_share_1, s_X7_share_4, s_X7_share_7, s_X7_share_8, s_X7_share_9, s_X7_share_10, s_X7_share_11, s_X7_share_14, s_X7_share_17, s_X7_share_18, s_X7_share_19, s_X7_share_20, s_X7_share_23, s_X7_share_26, s_X7_share_27, s_X7_share_28, s_X7_share_29, s_X7_share_32, s_X7_share_35, s_X7_share_36, s_X7_share_37, s_X7_share_38, s_X7_share_41, s_X7_share_44, s_X7_share_45, s_X7_share_46, s_X7_share_49, s_X7_share_51, s_X7_share_53, s_X7_share_54, s_X7_share_55, s_X7_share_58, s_X7_share_61, s_X7_share_62, s_X7_share_63, s_X7_share_66, s_X7_share_67, s_X7_share_70, s_X7_share_73, s_X7_share_74, s_X7_share_75, s_X7_share_78, s_X7_share_79, s_X7_share_81, s_X7_share_82, ↓reduceIte, Option.toList_some, Option.toList_none, List.cons_append, List.nil_append, List.singleton_append, List.append_nil, true_and, and_true, true_or, or_true, andT, iteT, iteF, itT, itF, zS_0, zP_0_0, zP_0_1, zP_0_2, zP_0_4, zP_0_5, zP_0_6, within_T, within_F, isGround_T, isGround_F, isTape_T, isTape_F, ne_eq, not_true_eq_false, not_false_eq_true, zS_r0 hX, zP_r0_0 hX, zP_r0_1 hX, zP_r0_2 hX, zP_r0_3 hX, zP_r0_4 hX, zP_r0_5 hX, zP_r0_6 hX, zP_r0_7 hX, zP_r0_8 hX, zP_r0_9 hX, zP_r0_10 hX, zP_r0_11 hX, zP_r0_12 hX, zP_r0_13 hX, zP_r0_14 hX, zP_r0_15 hX, zS_r14 hX, zP_r14_1 hX, zP_r14_2 hX, zP_r14_3 hX, zP_r14_4 hX, zP_r14_6 hX, zP_r14_7 hX, zP_r14_8 hX, zP_r14_9 hX, zP_r14_10 hX, zP_r14_11 hX, zP_r14_12 hX, zP_r14_13 hX, zP_r14_14 hX, zP_r14_15 hX, zS_r15 hX, zS_r16 hX, zS_r17 hX, zS_r18 hX, zS_r19 hX, zS_r20 hX, zS_r21 hX, zS_r22 hX, zS_r23 hX, zS_r24 hX, zS_r25 hX, zS_r26 hX, zS_r27 hX, zS_r28 hX, zS_r29 hX, zS_r54 hX, zS_r55 hX, zS_r61 hX, zS_r67 hX, zS_r68 hX, zS_r69 hX, zS_r70 hX, zS_r71 hX, zS_r72 hX, zS_r73 hX, zS_r79 hX, zS_r85 hX, zS_r86 hX, e1]
      exact hk
  · rw [if_neg (fun h => h1 h.1)] at hk
    simp (disch := first | assumption | omega | (simp (disch := omega) only [gU_row, gU_same, gU_i, gCp_row] <;> omega)) only [e_X7_share, s_X7_share_0, s_X7_share_1, s_X7_share_4, s_X7_share_7, s_X7_share_8, s_X7_share_9, s_X7_share_10, s_X7_share_11, s_X7_share_14, s_X7_share_17, s_X7_share_18, s_X7_share_19, s_X7_share_20, s_X7_share_23, s_X7_share_26, s_X7_share_27, s_X7_share_28, s_X7_share_29, s_X7_share_32, s_X7_share_35, s_X7_share_36, s_X7_share_37, s_X7_share_38, s_X7_share_41, s_X7_share_44, s_X7_share_45, s_X7_share_46, s_X7_share_49, s_X7_share_51, s_X7_share_53, s_X7_share_54, s_X7_share_55, s_X7_share_58, s_X7_share_61, s_X7_share_62, s_X7_share_63, s_X7_share_66, s_X7_share_67, s_X7_share_70, s_X7_share_73, s_X7_share_74, s_X7_share_75, s_X7_share_78, s_X7_share_79, s_X7_share_81, s_X7_share_82, ↓reduceIte, Option.toList_some, Option.toList_none, List.cons_append, List.nil_append, List.singleton_append, List.append_nil, true_and, and_true, true_or, or_true, andT, iteT, iteF, itT, itF, zS_0, zP_0_0, zP_0_1, zP_0_2, zP_0_4, zP_0_5, zP_0_6, within_T, within_F, isGround_T, isGround_F, isTape_T, isTape_F, ne_eq, not_true_eq_false, not_false_eq_true, zS_r0 hX, zP_r0_0 hX, zP_r0_1 hX, zP_r0_2 hX, zP_r0_3 hX, zP_r0_4 hX, zP_r0_5 hX, zP_r0_6 hX, zP_r0_7 hX, zP_r0_8 hX, zP_r0_9 hX, zP_r0_10 hX, zP_r0_11 hX, zP_r0_12 hX, zP_r0_13 hX, zP_r0_14 hX, zP_r0_15 hX, zS_r14 hX, zP_r14_1 hX, zP_r14_2 hX, zP_r14_3 hX, zP_r14_4 hX, zP_r14_6 hX, zP_r14_7 hX, zP_r14_8 hX, zP_r14_9 hX, zP_r14_10 hX, zP_r14_11 hX, zP_r14_12 hX, zP_r14_13 hX, zP_r14_14 hX, zP_r14_15 hX, zS_r15 hX, zS_r16 hX, zS_r17 hX, zS_r18 hX, zS_r19 hX, zS_r20 hX, zS_r21 hX, zS_r22 hX, zS_r23 hX, zS_r24 hX, zS_r25 hX, zS_r26 hX, zS_r27 hX, zS_r28 hX, zS_r29 hX, zS_r54 hX, zS_r55 hX, zS_r61 hX, zS_r67 hX, zS_r68 hX, zS_r69 hX, zS_r70 hX, zS_r71 hX, zS_r72 hX, zS_r73 hX, zS_r79 hX, zS_r85 hX, zS_r86 hX, e1]
    exact hk
end CHG
