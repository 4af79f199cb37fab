/-! TABLES, second part: a new row; rows that go; copies. -/
section TAB2
variable {L d N : Nat} {z X Y q x y v t c n : Int} {w : gW} {m : gM} {K : Option gV → gW → gM → Prop} {b : Bk}
set_option maxHeartbeats 200000 in
theorem grow_1 (hq : BB q) (h : BK m q b) (hk0 : (b 1).1 = 8 → K (some (0, -1)) (w0 L z X Y) m) (hk : (b 1).1 < 8 → ∀ m', Fr (q + 3) (q + 4) m m' → BK m' q (bSet b 1 (tGrow (b 1))) → K (some (0, (b 1).1)) (w0 L z X Y) m') : C (d + 2) M_X5_grow [(2, q + 3)] (w0 L z X Y) m K := by
  have h' := h
  obtain ⟨ht, rfl⟩ := h
  have e : (absB q m 1).1 = m (q + 3) 3 := rfl
  rw [e] at hk hk0
  unfold TBs at ht
  have hw : m (q + 3) 1 = 3 := by omega
  have hM : m (q + 3) 0 = 8 := by omega
  have hq0 : 0 ≤ q := by rcases hq with hq | hq | hq <;> omega
  have hs : 0 ≤ m (q + 3) 3 ∧ m (q + 3) 3 ≤ 8 := by omega
  by_cases hc : m (q + 3) 3 < 8
  · simp (disch := first | assumption | omega | (simp (disch := omega) only [gU_row, gU_same, gU_i, gCp_row] <;> omega)) only [e_X5_grow, s_X5_grow_0, s_X5_grow_1, s_X5_grow_4, s_X5_grow_5, s_X5_grow_8, s_X5_grow_11, s_X5_grow_12, s_X5_grow_13, s_X5_grow_14, s_X5_grow_16, s_X5_grow_17, s_X5_grow_20, s_X5_grow_23, s_X5_grow_24, s_X5_grow_25, s_X5_grow_28, s_X5_grow_29, s_X5_grow_30, s_X5_grow_33, s_X5_grow_36, s_X5_grow_39, s_X5_grow_40, s_X5_grow_41, s_X5_grow_44, s_X5_grow_45, s_X5_grow_46, s_X5_grow_49, s_X5_grow_50, s_X5_grow_53, s_X5_grow_54, s_X5_grow_55, Option.toList_some, Option.toList_none, List.cons_append, List.nil_append, List.singleton_append, List.append_nil, true_and, and_true, true_or, or_true, andT, iteT, iteF, itT, itF, zS_b3 hq, hM]
    refine R_for0 3 (fun i ls m' => ls = [(2, q + 3), (0, (i : Int))] ∧ (∀ a, a ≠ q + 4 → m' a = m a) ∧ (∀ k, 0 ≤ k → k < (i : Int) → m' (q + 4) (m (q + 3) 3 * 3 + k) = 0) ∧ (∀ k, k < m (q + 3) 3 * 3 → m' (q + 4) k = m (q + 4) k)) ⟨rfl, fun _ _ => rfl, fun k h0 h1 => absurd h1 (by omega), fun _ _ => rfl⟩ ?_ ?_
    · rintro i ls m' hi ⟨rfl, f1, f2, f3⟩ hn
      have ea := f1 (q + 3) (by omega)
      rw [s_X5_grow_15]
      have hw' : m' (q + 3) 1 = 3 := by rw [ea]; exact hw
      simp (disch := first | assumption | omega | (simp (disch := omega) only [gU_row, gU_same, gU_i, gCp_row] <;> omega)) only [e_X5_grow, s_X5_grow_0, s_X5_grow_1, s_X5_grow_4, s_X5_grow_5, s_X5_grow_8, s_X5_grow_11, s_X5_grow_12, s_X5_grow_13, s_X5_grow_14, s_X5_grow_16, s_X5_grow_17, s_X5_grow_20, s_X5_grow_23, s_X5_grow_24, s_X5_grow_25, s_X5_grow_28, s_X5_grow_29, s_X5_grow_30, s_X5_grow_33, s_X5_grow_36, s_X5_grow_39, s_X5_grow_40, s_X5_grow_41, s_X5_grow_44, s_X5_grow_45, s_X5_grow_46, s_X5_grow_49, s_X5_grow_50, s_X5_grow_53, s_X5_grow_54, s_X5_grow_55, Option.toList_some, Option.toList_none, List.cons_append, List.nil_append, List.singleton_append, List.append_nil, true_and, and_true, true_or, or_true, andT, iteT, iteF, itT, itF, rput_1 hq hw', zS_b3 hq, ea, hw, iadd_ok]
      refine hn _ _ ⟨by simp, fun a ha => by rw [gU_row ha, f1 a ha], fun k h0 h1 => ?_, fun k hk => ?_⟩
      · by_cases hki : k = i
        · subst hki
          rw [gU_same]
        · rw [gU_i (by omega)]
          exact f2 k h0 (by omega)
      · rw [gU_i (by omega)]
        exact f3 k hk
    · rintro ls m' ⟨rfl, f1, f2, f3⟩
      have ea := f1 (q + 3) (by omega)
      rw [s_X5_grow_15]
      simp (disch := first | assumption | omega | (simp (disch := omega) only [gU_row, gU_same, gU_i, gCp_row] <;> omega)) only [e_X5_grow, s_X5_grow_0, s_X5_grow_1, s_X5_grow_4, s_X5_grow_5, s_X5_grow_8, s_X5_grow_11, s_X5_grow_12, s_X5_grow_13, s_X5_grow_14, s_X5_grow_16, s_X5_grow_17, s_X5_grow_20, s_X5_grow_23, s_X5_grow_24, s_X5_grow_25, s_X5_grow_28, s_X5_grow_29, s_X5_grow_30, s_X5_grow_33, s_X5_grow_36, s_X5_grow_39, s_X5_grow_40, s_X5_grow_41, s_X5_grow_44, s_X5_grow_45, s_X5_grow_46, s_X5_grow_49, s_X5_grow_50, s_X5_grow_53, s_X5_grow_54, s_X5_grow_55, Option.toList_some, Option.toList_none, List.cons_append, List.nil_append, List.singleton_append, List.append_nil, true_and, and_true, true_or, or_true, andT, iteT, iteF, itT, itF, zS_b3 hq, ea, hw, iadd_ok, isub_ok, gU_same]
      have e2 : m (q + 3) 3 + 1 - 1 = m (q + 3) 3 := by omega
      rw [e2]
      refine hk hc _ (fun a ha => by rw [gU_row (by omega), f1 _ (by omega)]) ⟨?_, ?_⟩
      · unfold TBs
        simp (disch := omega) only [gU_row, gU_same, gU_i, f1]
        omega
      · refine bk_ext ?_ ?_ ?_ ?_ ?_ ?_ (fun t ht => by rw [bSet_ne (by omega), absB_6 ht, absB_6 ht])
        all_goals first
          | (simp (disch := omega) only [absB_0, absB_1, absB_2, absB_3, absB_4, absB_5, bSet_ne, gU_row, f1]; done)
          | (simp (disch := omega) only [absB_0, absB_1, absB_2, absB_3, absB_4, absB_5, bSet_eq, gU_row, gU_same]
             exact tb_grow (by omega) (by omega) (fun c h0 h1 => f2 c h0 h1) f3)
  · simp (disch := first | assumption | omega | (simp (disch := omega) only [gU_row, gU_same, gU_i, gCp_row] <;> omega)) only [e_X5_grow, s_X5_grow_0, s_X5_grow_1, s_X5_grow_4, s_X5_grow_5, s_X5_grow_8, s_X5_grow_11, s_X5_grow_12, s_X5_grow_13, s_X5_grow_14, s_X5_grow_16, s_X5_grow_17, s_X5_grow_20, s_X5_grow_23, s_X5_grow_24, s_X5_grow_25, s_X5_grow_28, s_X5_grow_29, s_X5_grow_30, s_X5_grow_33, s_X5_grow_36, s_X5_grow_39, s_X5_grow_40, s_X5_grow_41, s_X5_grow_44, s_X5_grow_45, s_X5_grow_46, s_X5_grow_49, s_X5_grow_50, s_X5_grow_53, s_X5_grow_54, s_X5_grow_55, Option.toList_some, Option.toList_none, List.cons_append, List.nil_append, List.singleton_append, List.append_nil, true_and, and_true, true_or, or_true, andT, iteT, iteF, itT, itF, zS_b3 hq, hM]
    exact hk0 (by omega)
set_option maxHeartbeats 200000 in
theorem grow_2 (hq : BB q) (h : BK m q b) (hk0 : (b 2).1 = 6 → K (some (0, -1)) (w0 L z X Y) m) (hk : (b 2).1 < 6 → ∀ m', Fr (q + 5) (q + 6) m m' → BK m' q (bSet b 2 (tGrow (b 2))) → K (some (0, (b 2).1)) (w0 L z X Y) m') : C (d + 2) M_X5_grow [(2, q + 5)] (w0 L z X Y) m K := by
  have h' := h
  obtain ⟨ht, rfl⟩ := h
  have e : (absB q m 2).1 = m (q + 5) 3 := rfl
  rw [e] at hk hk0
  unfold TBs at ht
  have hw : m (q + 5) 1 = 6 := by omega
  have hM : m (q + 5) 0 = 6 := by omega
  have hq0 : 0 ≤ q := by rcases hq with hq | hq | hq <;> omega
  have hs : 0 ≤ m (q + 5) 3 ∧ m (q + 5) 3 ≤ 6 := by omega
  by_cases hc : m (q + 5) 3 < 6
  · simp (disch := first | assumption | omega | (simp (disch := omega) only [gU_row, gU_same, gU_i, gCp_row] <;> omega)) only [e_X5_grow, s_X5_grow_0, s_X5_grow_1, s_X5_grow_4, s_X5_grow_5, s_X5_grow_8, s_X5_grow_11, s_X5_grow_12, s_X5_grow_13, s_X5_grow_14, s_X5_grow_16, s_X5_grow_17, s_X5_grow_20, s_X5_grow_23, s_X5_grow_24, s_X5_grow_25, s_X5_grow_28, s_X5_grow_29, s_X5_grow_30, s_X5_grow_33, s_X5_grow_36, s_X5_grow_39, s_X5_grow_40, s_X5_grow_41, s_X5_grow_44, s_X5_grow_45, s_X5_grow_46, s_X5_grow_49, s_X5_grow_50, s_X5_grow_53, s_X5_grow_54, s_X5_grow_55, Option.toList_some, Option.toList_none, List.cons_append, List.nil_append, List.singleton_append, List.append_nil, true_and, and_true, true_or, or_true, andT, iteT, iteF, itT, itF, zS_b5 hq, hM]
    refine R_for0 6 (fun i ls m' => ls = [(2, q + 5), (0, (i : Int))] ∧ (∀ a, a ≠ q + 6 → m' a = m a) ∧ (∀ k, 0 ≤ k → k < (i : Int) → m' (q + 6) (m (q + 5) 3 * 6 + k) = 0) ∧ (∀ k, k < m (q + 5) 3 * 6 → m' (q + 6) k = m (q + 6) k)) ⟨rfl, fun _ _ => rfl, fun k h0 h1 => absurd h1 (by omega), fun _ _ => rfl⟩ ?_ ?_
    · rintro i ls m' hi ⟨rfl, f1, f2, f3⟩ hn
      have ea := f1 (q + 5) (by omega)
      rw [s_X5_grow_15]
      have hw' : m' (q + 5) 1 = 6 := by rw [ea]; exact hw
      simp (disch := first | assumption | omega | (simp (disch := omega) only [gU_row, gU_same, gU_i, gCp_row] <;> omega)) only [e_X5_grow, s_X5_grow_0, s_X5_grow_1, s_X5_grow_4, s_X5_grow_5, s_X5_grow_8, s_X5_grow_11, s_X5_grow_12, s_X5_grow_13, s_X5_grow_14, s_X5_grow_16, s_X5_grow_17, s_X5_grow_20, s_X5_grow_23, s_X5_grow_24, s_X5_grow_25, s_X5_grow_28, s_X5_grow_29, s_X5_grow_30, s_X5_grow_33, s_X5_grow_36, s_X5_grow_39, s_X5_grow_40, s_X5_grow_41, s_X5_grow_44, s_X5_grow_45, s_X5_grow_46, s_X5_grow_49, s_X5_grow_50, s_X5_grow_53, s_X5_grow_54, s_X5_grow_55, Option.toList_some, Option.toList_none, List.cons_append, List.nil_append, List.singleton_append, List.append_nil, true_and, and_true, true_or, or_true, andT, iteT, iteF, itT, itF, rput_2 hq hw', zS_b5 hq, ea, hw, iadd_ok]
      refine hn _ _ ⟨by simp, fun a ha => by rw [gU_row ha, f1 a ha], fun k h0 h1 => ?_, fun k hk => ?_⟩
      · by_cases hki : k = i
        · subst hki
          rw [gU_same]
        · rw [gU_i (by omega)]
          exact f2 k h0 (by omega)
      · rw [gU_i (by omega)]
        exact f3 k hk
    · rintro ls m' ⟨rfl, f1, f2, f3⟩
      have ea := f1 (q + 5) (by omega)
      rw [s_X5_grow_15]
      simp (disch := first | assumption | omega | (simp (disch := omega) only [gU_row, gU_same, gU_i, gCp_row] <;> omega)) only [e_X5_grow, s_X5_grow_0, s_X5_grow_1, s_X5_grow_4, s_X5_grow_5, s_X5_grow_8, s_X5_grow_11, s_X5_grow_12, s_X5_grow_13, s_X5_grow_14, s_X5_grow_16, s_X5_grow_17, s_X5_grow_20, s_X5_grow_23, s_X5_grow_24, s_X5_grow_25, s_X5_grow_28, s_X5_grow_29, s_X5_grow_30, s_X5_grow_33, s_X5_grow_36, s_X5_grow_39, s_X5_grow_40, s_X5_grow_41, s_X5_grow_44, s_X5_grow_45, s_X5_grow_46, s_X5_grow_49, s_X5_grow_50, s_X5_grow_53, s_X5_grow_54, s_X5_grow_55, Option.toList_some, Option.toList_none, List.cons_append, List.nil_append, List.singleton_append, List.append_nil, true_and, and_true, true_or, or_true, andT, iteT, iteF, itT, itF, zS_b5 hq, ea, hw, iadd_ok, isub_ok, gU_same]
      have e2 : m (q + 5) 3 + 1 - 1 = m (q + 5) 3 := by omega
      rw [e2]
      refine hk hc _ (fun a ha => by rw [gU_row (by omega), f1 _ (by omega)]) ⟨?_, ?_⟩
      · unfold TBs
        simp (disch := omega) only [gU_row, gU_same, gU_i, f1]
        omega
      · refine bk_ext ?_ ?_ ?_ ?_ ?_ ?_ (fun t ht => by rw [bSet_ne (by omega), absB_6 ht, absB_6 ht])
        all_goals first
          | (simp (disch := omega) only [absB_0, absB_1, absB_2, absB_3, absB_4, absB_5, bSet_ne, gU_row, f1]; done)
          | (simp (disch := omega) only [absB_0, absB_1, absB_2, absB_3, absB_4, absB_5, bSet_eq, gU_row, gU_same]
             exact tb_grow (by omega) (by omega) (fun c h0 h1 => f2 c h0 h1) f3)
  · simp (disch := first | assumption | omega | (simp (disch := omega) only [gU_row, gU_same, gU_i, gCp_row] <;> omega)) only [e_X5_grow, s_X5_grow_0, s_X5_grow_1, s_X5_grow_4, s_X5_grow_5, s_X5_grow_8, s_X5_grow_11, s_X5_grow_12, s_X5_grow_13, s_X5_grow_14, s_X5_grow_16, s_X5_grow_17, s_X5_grow_20, s_X5_grow_23, s_X5_grow_24, s_X5_grow_25, s_X5_grow_28, s_X5_grow_29, s_X5_grow_30, s_X5_grow_33, s_X5_grow_36, s_X5_grow_39, s_X5_grow_40, s_X5_grow_41, s_X5_grow_44, s_X5_grow_45, s_X5_grow_46, s_X5_grow_49, s_X5_grow_50, s_X5_grow_53, s_X5_grow_54, s_X5_grow_55, Option.toList_some, Option.toList_none, List.cons_append, List.nil_append, List.singleton_append, List.append_nil, true_and, and_true, true_or, or_true, andT, iteT, iteF, itT, itF, zS_b5 hq, hM]
    exact hk0 (by omega)
set_option maxHeartbeats 200000 in
theorem grow_3 (hq : BB q) (h : BK m q b) (hk0 : (b 3).1 = 24 → K (some (0, -1)) (w0 L z X Y) m) (hk : (b 3).1 < 24 → ∀ m', Fr (q + 7) (q + 8) m m' → BK m' q (bSet b 3 (tGrow (b 3))) → K (some (0, (b 3).1)) (w0 L z X Y) m') : C (d + 2) M_X5_grow [(2, q + 7)] (w0 L z X Y) m K := by
  have h' := h
  obtain ⟨ht, rfl⟩ := h
  have e : (absB q m 3).1 = m (q + 7) 3 := rfl
  rw [e] at hk hk0
  unfold TBs at ht
  have hw : m (q + 7) 1 = 5 := by omega
  have hM : m (q + 7) 0 = 24 := by omega
  have hq0 : 0 ≤ q := by rcases hq with hq | hq | hq <;> omega
  have hs : 0 ≤ m (q + 7) 3 ∧ m (q + 7) 3 ≤ 24 := by omega
  by_cases hc : m (q + 7) 3 < 24
  · simp (disch := first | assumption | omega | (simp (disch := omega) only [gU_row, gU_same, gU_i, gCp_row] <;> omega)) only [e_X5_grow, s_X5_grow_0, s_X5_grow_1, s_X5_grow_4, s_X5_grow_5, s_X5_grow_8, s_X5_grow_11, s_X5_grow_12, s_X5_grow_13, s_X5_grow_14, s_X5_grow_16, s_X5_grow_17, s_X5_grow_20, s_X5_grow_23, s_X5_grow_24, s_X5_grow_25, s_X5_grow_28, s_X5_grow_29, s_X5_grow_30, s_X5_grow_33, s_X5_grow_36, s_X5_grow_39, s_X5_grow_40, s_X5_grow_41, s_X5_grow_44, s_X5_grow_45, s_X5_grow_46, s_X5_grow_49, s_X5_grow_50, s_X5_grow_53, s_X5_grow_54, s_X5_grow_55, Option.toList_some, Option.toList_none, List.cons_append, List.nil_append, List.singleton_append, List.append_nil, true_and, and_true, true_or, or_true, andT, iteT, iteF, itT, itF, zS_b7 hq, hM]
    refine R_for0 5 (fun i ls m' => ls = [(2, q + 7), (0, (i : Int))] ∧ (∀ a, a ≠ q + 8 → m' a = m a) ∧ (∀ k, 0 ≤ k → k < (i : Int) → m' (q + 8) (m (q + 7) 3 * 5 + k) = 0) ∧ (∀ k, k < m (q + 7) 3 * 5 → m' (q + 8) k = m (q + 8) k)) ⟨rfl, fun _ _ => rfl, fun k h0 h1 => absurd h1 (by omega), fun _ _ => rfl⟩ ?_ ?_
    · rintro i ls m' hi ⟨rfl, f1, f2, f3⟩ hn
      have ea := f1 (q + 7) (by omega)
      rw [s_X5_grow_15]
      have hw' : m' (q + 7) 1 = 5 := by rw [ea]; exact hw
      simp (disch := first | assumption | omega | (simp (disch := omega) only [gU_row, gU_same, gU_i, gCp_row] <;> omega)) only [e_X5_grow, s_X5_grow_0, s_X5_grow_1, s_X5_grow_4, s_X5_grow_5, s_X5_grow_8, s_X5_grow_11, s_X5_grow_12, s_X5_grow_13, s_X5_grow_14, s_X5_grow_16, s_X5_grow_17, s_X5_grow_20, s_X5_grow_23, s_X5_grow_24, s_X5_grow_25, s_X5_grow_28, s_X5_grow_29, s_X5_grow_30, s_X5_grow_33, s_X5_grow_36, s_X5_grow_39, s_X5_grow_40, s_X5_grow_41, s_X5_grow_44, s_X5_grow_45, s_X5_grow_46, s_X5_grow_49, s_X5_grow_50, s_X5_grow_53, s_X5_grow_54, s_X5_grow_55, Option.toList_some, Option.toList_none, List.cons_append, List.nil_append, List.singleton_append, List.append_nil, true_and, and_true, true_or, or_true, andT, iteT, iteF, itT, itF, rput_3 hq hw', zS_b7 hq, ea, hw, iadd_ok]
      refine hn _ _ ⟨by simp, fun a ha => by rw [gU_row ha, f1 a ha], fun k h0 h1 => ?_, fun k hk => ?_⟩
      · by_cases hki : k = i
        · subst hki
          rw [gU_same]
        · rw [gU_i (by omega)]
          exact f2 k h0 (by omega)
      · rw [gU_i (by omega)]
        exact f3 k hk
    · rintro ls m' ⟨rfl, f1, f2, f3⟩
      have ea := f1 (q + 7) (by omega)
      rw [s_X5_grow_15]
      simp (disch := first | assumption | omega | (simp (disch := omega) only [gU_row, gU_same, gU_i, gCp_row] <;> omega)) only [e_X5_grow, s_X5_grow_0, s_X5_grow_1, s_X5_grow_4, s_X5_grow_5, s_X5_grow_8, s_X5_grow_11, s_X5_grow_12, s_X5_grow_13, s_X5_grow_14, s_X5_grow_16, s_X5_grow_17, s_X5_grow_20, s_X5_grow_23, s_X5_grow_24, s_X5_grow_25, s_X5_grow_28, s_X5_grow_29, s_X5_grow_30, s_X5_grow_33, s_X5_grow_36, s_X5_grow_39, s_X5_grow_40, s_X5_grow_41, s_X5_grow_44, s_X5_grow_45, s_X5_grow_46, s_X5_grow_49, s_X5_grow_50, s_X5_grow_53, s_X5_grow_54, s_X5_grow_55, Option.toList_some, Option.toList_none, List.cons_append, List.nil_append, List.singleton_append, List.append_nil, true_and, and_true, true_or, or_true, andT, iteT, iteF, itT, itF, zS_b7 hq, ea, hw, iadd_ok, isub_ok, gU_same]
      have e2 : m (q + 7) 3 + 1 - 1 = m (q + 7) 3 := by omega
      rw [e2]
      refine hk hc _ (fun a ha => by rw [gU_row (by omega), f1 _ (by omega)]) ⟨?_, ?_⟩
      · unfold TBs
        simp (disch := omega) only [gU_row, gU_same, gU_i, f1]
        omega
      · refine bk_ext ?_ ?_ ?_ ?_ ?_ ?_ (fun t ht => by rw [bSet_ne (by omega), absB_6 ht, absB_6 ht])
        all_goals first
          | (simp (disch := omega) only [absB_0, absB_1, absB_2, absB_3, absB_4, absB_5, bSet_ne, gU_row, f1]; done)
          | (simp (disch := omega) only [absB_0, absB_1, absB_2, absB_3, absB_4, absB_5, bSet_eq, gU_row, gU_same]
             exact tb_grow (by omega) (by omega) (fun c h0 h1 => f2 c h0 h1) f3)
  · simp (disch := first | assumption | omega | (simp (disch := omega) only [gU_row, gU_same, gU_i, gCp_row] <;> omega)) only [e_X5_grow, s_X5_grow_0, s_X5_grow_1, s_X5_grow_4, s_X5_grow_5, s_X5_grow_8, s_X5_grow_11, s_X5_grow_12, s_X5_grow_13, s_X5_grow_14, s_X5_grow_16, s_X5_grow_17, s_X5_grow_20, s_X5_grow_23, s_X5_grow_24, s_X5_grow_25, s_X5_grow_28, s_X5_grow_29, s_X5_grow_30, s_X5_grow_33, s_X5_grow_36, s_X5_grow_39, s_X5_grow_40, s_X5_grow_41, s_X5_grow_44, s_X5_grow_45, s_X5_grow_46, s_X5_grow_49, s_X5_grow_50, s_X5_grow_53, s_X5_grow_54, s_X5_grow_55, Option.toList_some, Option.toList_none, List.cons_append, List.nil_append, List.singleton_append, List.append_nil, true_and, and_true, true_or, or_true, andT, iteT, iteF, itT, itF, zS_b7 hq, hM]
    exact hk0 (by omega)
set_option maxHeartbeats 200000 in
theorem grow_4 (hq : BB q) (h : BK m q b) (hk0 : (b 4).1 = 4 → K (some (0, -1)) (w0 L z X Y) m) (hk : (b 4).1 < 4 → ∀ m', Fr (q + 9) (q + 10) m m' → BK m' q (bSet b 4 (tGrow (b 4))) → K (some (0, (b 4).1)) (w0 L z X Y) m') : C (d + 2) M_X5_grow [(2, q + 9)] (w0 L z X Y) m K := by
  have h' := h
  obtain ⟨ht, rfl⟩ := h
  have e : (absB q m 4).1 = m (q + 9) 3 := rfl
  rw [e] at hk hk0
  unfold TBs at ht
  have hw : m (q + 9) 1 = 2 := by omega
  have hM : m (q + 9) 0 = 4 := by omega
  have hq0 : 0 ≤ q := by rcases hq with hq | hq | hq <;> omega
  have hs : 0 ≤ m (q + 9) 3 ∧ m (q + 9) 3 ≤ 4 := by omega
  by_cases hc : m (q + 9) 3 < 4
  · simp (disch := first | assumption | omega | (simp (disch := omega) only [gU_row, gU_same, gU_i, gCp_row] <;> omega)) only [e_X5_grow, s_X5_grow_0, s_X5_grow_1, s_X5_grow_4, s_X5_grow_5, s_X5_grow_8, s_X5_grow_11, s_X5_grow_12, s_X5_grow_13, s_X5_grow_14, s_X5_grow_16, s_X5_grow_17, s_X5_grow_20, s_X5_grow_23, s_X5_grow_24, s_X5_grow_25, s_X5_grow_28, s_X5_grow_29, s_X5_grow_30, s_X5_grow_33, s_X5_grow_36, s_X5_grow_39, s_X5_grow_40, s_X5_grow_41, s_X5_grow_44, s_X5_grow_45, s_X5_grow_46, s_X5_grow_49, s_X5_grow_50, s_X5_grow_53, s_X5_grow_54, s_X5_grow_55, Option.toList_some, Option.toList_none, List.cons_append, List.nil_append, List.singleton_append, List.append_nil, true_and, and_true, true_or, or_true, andT, iteT, iteF, itT, itF, zS_b9 hq, hM]
    refine R_for0 2 (fun i ls m' => ls = [(2, q + 9), (0, (i : Int))] ∧ (∀ a, a ≠ q + 10 → m' a = m a) ∧ (∀ k, 0 ≤ k → k < (i : Int) → m' (q + 10) (m (q + 9) 3 * 2 + k) = 0) ∧ (∀ k, k < m (q + 9) 3 * 2 → m' (q + 10) k = m (q + 10) k)) ⟨rfl, fun _ _ => rfl, fun k h0 h1 => absurd h1 (by omega), fun _ _ => rfl⟩ ?_ ?_
    · rintro i ls m' hi ⟨rfl, f1, f2, f3⟩ hn
      have ea := f1 (q + 9) (by omega)
      rw [s_X5_grow_15]
      have hw' : m' (q + 9) 1 = 2 := by rw [ea]; exact hw
      simp (disch := first | assumption | omega | (simp (disch := omega) only [gU_row, gU_same, gU_i, gCp_row] <;> omega)) only [e_X5_grow, s_X5_grow_0, s_X5_grow_1, s_X5_grow_4, s_X5_grow_5, s_X5_grow_8, s_X5_grow_11, s_X5_grow_12, s_X5_grow_13, s_X5_grow_14, s_X5_grow_16, s_X5_grow_17, s_X5_grow_20, s_X5_grow_23, s_X5_grow_24, s_X5_grow_25, s_X5_grow_28, s_X5_grow_29, s_X5_grow_30, s_X5_grow_33, s_X5_grow_36, s_X5_grow_39, s_X5_grow_40, s_X5_grow_41, s_X5_grow_44, s_X5_grow_45, s_X5_grow_46, s_X5_grow_49, s_X5_grow_50, s_X5_grow_53, s_X5_grow_54, s_X5_grow_55, Option.toList_some, Option.toList_none, List.cons_append, List.nil_append, List.singleton_append, List.append_nil, true_and, and_true, true_or, or_true, andT, iteT, iteF, itT, itF, rput_4 hq hw', zS_b9 hq, ea, hw, iadd_ok]
      refine hn _ _ ⟨by simp, fun a ha => by rw [gU_row ha, f1 a ha], fun k h0 h1 => ?_, fun k hk => ?_⟩
      · by_cases hki : k = i
        · subst hki
          rw [gU_same]
        · rw [gU_i (by omega)]
          exact f2 k h0 (by omega)
      · rw [gU_i (by omega)]
        exact f3 k hk
    · rintro ls m' ⟨rfl, f1, f2, f3⟩
      have ea := f1 (q + 9) (by omega)
      rw [s_X5_grow_15]
      simp (disch := first | assumption | omega | (simp (disch := omega) only [gU_row, gU_same, gU_i, gCp_row] <;> omega)) only [e_X5_grow, s_X5_grow_0, s_X5_grow_1, s_X5_grow_4, s_X5_grow_5, s_X5_grow_8, s_X5_grow_11, s_X5_grow_12, s_X5_grow_13, s_X5_grow_14, s_X5_grow_16, s_X5_grow_17, s_X5_grow_20, s_X5_grow_23, s_X5_grow_24, s_X5_grow_25, s_X5_grow_28, s_X5_grow_29, s_X5_grow_30, s_X5_grow_33, s_X5_grow_36, s_X5_grow_39, s_X5_grow_40, s_X5_grow_41, s_X5_grow_44, s_X5_grow_45, s_X5_grow_46, s_X5_grow_49, s_X5_grow_50, s_X5_grow_53, s_X5_grow_54, s_X5_grow_55, Option.toList_some, Option.toList_none, List.cons_append, List.nil_append, List.singleton_append, List.append_nil, true_and, and_true, true_or, or_true, andT, iteT, iteF, itT, itF, zS_b9 hq, ea, hw, iadd_ok, isub_ok, gU_same]
      have e2 : m (q + 9) 3 + 1 - 1 = m (q + 9) 3 := by omega
      rw [e2]
      refine hk hc _ (fun a ha => by rw [gU_row (by omega), f1 _ (by omega)]) ⟨?_, ?_⟩
      · unfold TBs
        simp (disch := omega) only [gU_row, gU_same, gU_i, f1]
        omega
      · refine bk_ext ?_ ?_ ?_ ?_ ?_ ?_ (fun t ht => by rw [bSet_ne (by omega), absB_6 ht, absB_6 ht])
        all_goals first
          | (simp (disch := omega) only [absB_0, absB_1, absB_2, absB_3, absB_4, absB_5, bSet_ne, gU_row, f1]; done)
          | (simp (disch := omega) only [absB_0, absB_1, absB_2, absB_3, absB_4, absB_5, bSet_eq, gU_row, gU_same]
             exact tb_grow (by omega) (by omega) (fun c h0 h1 => f2 c h0 h1) f3)
  · simp (disch := first | assumption | omega | (simp (disch := omega) only [gU_row, gU_same, gU_i, gCp_row] <;> omega)) only [e_X5_grow, s_X5_grow_0, s_X5_grow_1, s_X5_grow_4, s_X5_grow_5, s_X5_grow_8, s_X5_grow_11, s_X5_grow_12, s_X5_grow_13, s_X5_grow_14, s_X5_grow_16, s_X5_grow_17, s_X5_grow_20, s_X5_grow_23, s_X5_grow_24, s_X5_grow_25, s_X5_grow_28, s_X5_grow_29, s_X5_grow_30, s_X5_grow_33, s_X5_grow_36, s_X5_grow_39, s_X5_grow_40, s_X5_grow_41, s_X5_grow_44, s_X5_grow_45, s_X5_grow_46, s_X5_grow_49, s_X5_grow_50, s_X5_grow_53, s_X5_grow_54, s_X5_grow_55, Option.toList_some, Option.toList_none, List.cons_append, List.nil_append, List.singleton_append, List.append_nil, true_and, and_true, true_or, or_true, andT, iteT, iteF, itT, itF, zS_b9 hq, hM]
    exact hk0 (by omega)
set_option maxHeartbeats 200000 in
theorem grow_5 (hq : BB q) (h : BK m q b) (hk0 : (b 5).1 = 8 → K (some (0, -1)) (w0 L z X Y) m) (hk : (b 5).1 < 8 → ∀ m', Fr (q + 11) (q + 12) m m' → BK m' q (bSet b 5 (tGrow (b 5))) → K (some (0, (b 5).1)) (w0 L z X Y) m') : C (d + 2) M_X5_grow [(2, q + 11)] (w0 L z X Y) m K := by
  have h' := h
  obtain ⟨ht, rfl⟩ := h
  have e : (absB q m 5).1 = m (q + 11) 3 := rfl
  rw [e] at hk hk0
  unfold TBs at ht
  have hw : m (q + 11) 1 = 2 := by omega
  have hM : m (q + 11) 0 = 8 := by omega
  have hq0 : 0 ≤ q := by rcases hq with hq | hq | hq <;> omega
  have hs : 0 ≤ m (q + 11) 3 ∧ m (q + 11) 3 ≤ 8 := by omega
  by_cases hc : m (q + 11) 3 < 8
  · simp (disch := first | assumption | omega | (simp (disch := omega) only [gU_row, gU_same, gU_i, gCp_row] <;> omega)) only [e_X5_grow, s_X5_grow_0, s_X5_grow_1, s_X5_grow_4, s_X5_grow_5, s_X5_grow_8, s_X5_grow_11, s_X5_grow_12, s_X5_grow_13, s_X5_grow_14, s_X5_grow_16, s_X5_grow_17, s_X5_grow_20, s_X5_grow_23, s_X5_grow_24, s_X5_grow_25, s_X5_grow_28, s_X5_grow_29, s_X5_grow_30, s_X5_grow_33, s_X5_grow_36, s_X5_grow_39, s_X5_grow_40, s_X5_grow_41, s_X5_grow_44, s_X5_grow_45, s_X5_grow_46, s_X5_grow_49, s_X5_grow_50, s_X5_grow_53, s_X5_grow_54, s_X5_grow_55, Option.toList_some, Option.toList_none, List.cons_append, List.nil_append, List.singleton_append, List.append_nil, true_and, and_true, true_or, or_true, andT, iteT, iteF, itT, itF, zS_b11 hq, hM]
    refine R_for0 2 (fun i ls m' => ls = [(2, q + 11), (0, (i : Int))] ∧ (∀ a, a ≠ q + 12 → m' a = m a) ∧ (∀ k, 0 ≤ k → k < (i : Int) → m' (q + 12) (m (q + 11) 3 * 2 + k) = 0) ∧ (∀ k, k < m (q + 11) 3 * 2 → m' (q + 12) k = m (q + 12) k)) ⟨rfl, fun _ _ => rfl, fun k h0 h1 => absurd h1 (by omega), fun _ _ => rfl⟩ ?_ ?_
    · rintro i ls m' hi ⟨rfl, f1, f2, f3⟩ hn
      have ea := f1 (q + 11) (by omega)
      rw [s_X5_grow_15]
      have hw' : m' (q + 11) 1 = 2 := by rw [ea]; exact hw
      simp (disch := first | assumption | omega | (simp (disch := omega) only [gU_row, gU_same, gU_i, gCp_row] <;> omega)) only [e_X5_grow, s_X5_grow_0, s_X5_grow_1, s_X5_grow_4, s_X5_grow_5, s_X5_grow_8, s_X5_grow_11, s_X5_grow_12, s_X5_grow_13, s_X5_grow_14, s_X5_grow_16, s_X5_grow_17, s_X5_grow_20, s_X5_grow_23, s_X5_grow_24, s_X5_grow_25, s_X5_grow_28, s_X5_grow_29, s_X5_grow_30, s_X5_grow_33, s_X5_grow_36, s_X5_grow_39, s_X5_grow_40, s_X5_grow_41, s_X5_grow_44, s_X5_grow_45, s_X5_grow_46, s_X5_grow_49, s_X5_grow_50, s_X5_grow_53, s_X5_grow_54, s_X5_grow_55, Option.toList_some, Option.toList_none, List.cons_append, List.nil_append, List.singleton_append, List.append_nil, true_and, and_true, true_or, or_true, andT, iteT, iteF, itT, itF, rput_5 hq hw', zS_b11 hq, ea, hw, iadd_ok]
      refine hn _ _ ⟨by simp, fun a ha => by rw [gU_row ha, f1 a ha], fun k h0 h1 => ?_, fun k hk => ?_⟩
      · by_cases hki : k = i
        · subst hki
          rw [gU_same]
        · rw [gU_i (by omega)]
          exact f2 k h0 (by omega)
      · rw [gU_i (by omega)]
        exact f3 k hk
    · rintro ls m' ⟨rfl, f1, f2, f3⟩
      have ea := f1 (q + 11) (by omega)
      rw [s_X5_grow_15]
      simp (disch := first | assumption | omega | (simp (disch := omega) only [gU_row, gU_same, gU_i, gCp_row] <;> omega)) only [e_X5_grow, s_X5_grow_0, s_X5_grow_1, s_X5_grow_4, s_X5_grow_5, s_X5_grow_8, s_X5_grow_11, s_X5_grow_12, s_X5_grow_13, s_X5_grow_14, s_X5_grow_16, s_X5_grow_17, s_X5_grow_20, s_X5_grow_23, s_X5_grow_24, s_X5_grow_25, s_X5_grow_28, s_X5_grow_29, s_X5_grow_30, s_X5_grow_33, s_X5_grow_36, s_X5_grow_39, s_X5_grow_40, s_X5_grow_41, s_X5_grow_44, s_X5_grow_45, s_X5_grow_46, s_X5_grow_49, s_X5_grow_50, s_X5_grow_53, s_X5_grow_54, s_X5_grow_55, Option.toList_some, Option.toList_none, List.cons_append, List.nil_append, List.singleton_append, List.append_nil, true_and, and_true, true_or, or_true, andT, iteT, iteF, itT, itF, zS_b11 hq, ea, hw, iadd_ok, isub_ok, gU_same]
      have e2 : m (q + 11) 3 + 1 - 1 = m (q + 11) 3 := by omega
      rw [e2]
      refine hk hc _ (fun a ha => by rw [gU_row (by omega), f1 _ (by omega)]) ⟨?_, ?_⟩
      · unfold TBs
        simp (disch := omega) only [gU_row, gU_same, gU_i, f1]
        omega
      · refine bk_ext ?_ ?_ ?_ ?_ ?_ ?_ (fun t ht => by rw [bSet_ne (by omega), absB_6 ht, absB_6 ht])
        all_goals first
          | (simp (disch := omega) only [absB_0, absB_1, absB_2, absB_3, absB_4, absB_5, bSet_ne, gU_row, f1]; done)
          | (simp (disch := omega) only [absB_0, absB_1, absB_2, absB_3, absB_4, absB_5, bSet_eq, gU_row, gU_same]
             exact tb_grow (by omega) (by omega) (fun c h0 h1 => f2 c h0 h1) f3)
  · simp (disch := first | assumption | omega | (simp (disch := omega) only [gU_row, gU_same, gU_i, gCp_row] <;> omega)) only [e_X5_grow, s_X5_grow_0, s_X5_grow_1, s_X5_grow_4, s_X5_grow_5, s_X5_grow_8, s_X5_grow_11, s_X5_grow_12, s_X5_grow_13, s_X5_grow_14, s_X5_grow_16, s_X5_grow_17, s_X5_grow_20, s_X5_grow_23, s_X5_grow_24, s_X5_grow_25, s_X5_grow_28, s_X5_grow_29, s_X5_grow_30, s_X5_grow_33, s_X5_grow_36, s_X5_grow_39, s_X5_grow_40, s_X5_grow_41, s_X5_grow_44, s_X5_grow_45, s_X5_grow_46, s_X5_grow_49, s_X5_grow_50, s_X5_grow_53, s_X5_grow_54, s_X5_grow_55, Option.toList_some, Option.toList_none, List.cons_append, List.nil_append, List.singleton_append, List.append_nil, true_and, and_true, true_or, or_true, andT, iteT, iteF, itT, itF, zS_b11 hq, hM]
    exact hk0 (by omega)
end TAB2
