/-! TABLES, third part: rows that go; copies. -/
def tDropN : Nat → Tb → Int → Tb
  | 0, T, _ => T
  | n + 1, T, c => tDropN n (if T.2 n c = 0 then tRem T n else T) c
def tDrop (T : Tb) (c : Int) : Tb := tDropN T.1.toNat T c
section TAB3
variable {L d N : Nat} {z X Y q q' x y v t c n : Int} {w : gW} {m : gM} {K : Option gV → gW → gM → Prop} {b b' : Bk}
theorem bSet_bSet {t : Nat} {T T' : Tb} : bSet (bSet b t T) t T' = bSet b t T' := by
  funext k
  unfold bSet
  by_cases e : k = t <;> simp [e]
theorem bSet_self {t : Nat} : bSet b t (b t) = b := by
  funext k
  unfold bSet
  by_cases e : k = t <;> simp [e]
theorem Fr_refl {lo hi : Int} : Fr lo hi m m := fun _ _ => rfl
theorem Fr_trans {lo hi : Int} {m' m'' : gM} (h : Fr lo hi m m') (h2 : Fr lo hi m' m'') : Fr lo hi m m'' := fun a ha => by rw [h2 a ha, h a ha]
theorem Fr_w {lo hi lo' hi' : Int} {m' : gM} (h : Fr lo hi m m') (h1 : lo' ≤ lo) (h2 : hi ≤ hi') : Fr lo' hi' m m' := fun a ha => h a (by omega)
theorem BK_b0 (h : BK m q b) : (b 0).1 = 5 := by
  obtain ⟨ht, rfl⟩ := h
  exact ht.2.1
theorem BK_s1 (h : BK m q b) : 0 ≤ (b 1).1 ∧ (b 1).1 ≤ 8 := by
  obtain ⟨ht, rfl⟩ := h
  have e : (absB q m 1).1 = m (q + 3) 3 := rfl
  rw [e]
  unfold TBs at ht
  omega
theorem BK_s2 (h : BK m q b) : 0 ≤ (b 2).1 ∧ (b 2).1 ≤ 6 := by
  obtain ⟨ht, rfl⟩ := h
  have e : (absB q m 2).1 = m (q + 5) 3 := rfl
  rw [e]
  unfold TBs at ht
  omega
theorem BK_s3 (h : BK m q b) : 0 ≤ (b 3).1 ∧ (b 3).1 ≤ 24 := by
  obtain ⟨ht, rfl⟩ := h
  have e : (absB q m 3).1 = m (q + 7) 3 := rfl
  rw [e]
  unfold TBs at ht
  omega
theorem BK_s4 (h : BK m q b) : 0 ≤ (b 4).1 ∧ (b 4).1 ≤ 4 := by
  obtain ⟨ht, rfl⟩ := h
  have e : (absB q m 4).1 = m (q + 9) 3 := rfl
  rw [e]
  unfold TBs at ht
  omega
theorem BK_s5 (h : BK m q b) : 0 ≤ (b 5).1 ∧ (b 5).1 ≤ 8 := by
  obtain ⟨ht, rfl⟩ := h
  have e : (absB q m 5).1 = m (q + 11) 3 := rfl
  rw [e]
  unfold TBs at ht
  omega
theorem BK_fr {lo hi : Int} {m' : gM} (h : BK m q b) (hf : Fr lo hi m m') (hd : hi < q + 1 ∨ q + 12 < lo) : BK m' q b := by
  obtain ⟨ht, rfl⟩ := h
  refine ⟨?_, ?_⟩
  · unfold TBs at ht ⊢
    simp only [hf (q + 1) (by omega), hf (q + 3) (by omega), hf (q + 5) (by omega), hf (q + 7) (by omega), hf (q + 9) (by omega), hf (q + 11) (by omega)]
    exact ht
  · refine bk_ext ?_ ?_ ?_ ?_ ?_ ?_ (fun t ht => by rw [absB_6 ht, absB_6 ht])
    · rw [absB_0, absB_0, hf (q + 1) (by omega), hf (q + 2) (by omega)]
    · rw [absB_1, absB_1, hf (q + 3) (by omega), hf (q + 4) (by omega)]
    · rw [absB_2, absB_2, hf (q + 5) (by omega), hf (q + 6) (by omega)]
    · rw [absB_3, absB_3, hf (q + 7) (by omega), hf (q + 8) (by omega)]
    · rw [absB_4, absB_4, hf (q + 9) (by omega), hf (q + 10) (by omega)]
    · rw [absB_5, absB_5, hf (q + 11) (by omega), hf (q + 12) (by omega)]
theorem BB_ne (hq : BB q) (hq' : BB q') (h : q ≠ q') : q + 12 < q' ∨ q' + 12 < q := by
  rcases hq with rfl | rfl | rfl <;> rcases hq' with rfl | rfl | rfl <;> omega
set_option maxHeartbeats 200000 in
theorem dropZeros_1 (hq : BB q) (h : BK m q b) (hk : ∀ m', Fr (q + 3) (q + 4) m m' → BK m' q (bSet b 1 (tDrop (b 1) 2)) → K none (w0 L z X Y) m') : C (d + 3) M_X5_dropZeros [(2, q + 3), (0, 2)] (w0 L z X Y) m K := by
  have hs := BK_s1 h
  have e : m (q + 3) 3 = (b 1).1 := by
    obtain ⟨ht, rfl⟩ := h
    rfl
  simp (disch := first | assumption | omega | (simp (disch := omega) only [gU_row, gU_same, gU_i, gCp_row] <;> omega)) only [e_X5_dropZeros, s_X5_dropZeros_0, s_X5_dropZeros_1, s_X5_dropZeros_4, s_X5_dropZeros_5, s_X5_dropZeros_6, s_X5_dropZeros_8, s_X5_dropZeros_11, s_X5_dropZeros_12, s_X5_dropZeros_13, s_X5_dropZeros_14, s_X5_dropZeros_17, s_X5_dropZeros_20, s_X5_dropZeros_21, s_X5_dropZeros_22, s_X5_dropZeros_25, s_X5_dropZeros_28, s_X5_dropZeros_31, Option.toList_some, Option.toList_none, List.cons_append, List.nil_append, List.singleton_append, List.append_nil, true_and, and_true, true_or, or_true, andT, iteT, iteF, itT, itF, zS_b3 hq, e, isub_ok]
  refine R_for0 (b 1).1.toNat (fun i ls m' => ls = [(2, q + 3), (0, 2), (0, (b 1).1 - 1 - i)] ∧ Fr (q + 3) (q + 4) m m' ∧ ∃ T : Tb, BK m' q (bSet b 1 T) ∧ (b 1).1 - i ≤ T.1 ∧ tDropN ((b 1).1.toNat - i) T 2 = tDrop (b 1) 2) ⟨by simp, Fr_refl, b 1, by rw [bSet_self]; exact h, by omega, rfl⟩ ?_ ?_
  · rintro i ls m' hi ⟨rfl, f1, T, f2, f3, f4⟩ hn
    rw [s_X5_dropZeros_7]
    have hT : (bSet b 1 T 1).1 = T.1 := by rw [bSet_eq]
    have hT2 : (bSet b 1 T 1) = T := by rw [bSet_eq]
    have es : (b 1).1.toNat - i = ((b 1).1.toNat - (i + 1)) + 1 := by omega
    have ec : (((b 1).1.toNat - (i + 1) : Nat) : Int) = (b 1).1 - 1 - i := by omega
    rw [es, tDropN, ec] at f4
    simp (disch := first | assumption | omega | (simp (disch := omega) only [gU_row, gU_same, gU_i, gCp_row] <;> omega)) only [e_X5_dropZeros, s_X5_dropZeros_0, s_X5_dropZeros_1, s_X5_dropZeros_4, s_X5_dropZeros_5, s_X5_dropZeros_6, s_X5_dropZeros_8, s_X5_dropZeros_11, s_X5_dropZeros_12, s_X5_dropZeros_13, s_X5_dropZeros_14, s_X5_dropZeros_20, s_X5_dropZeros_21, s_X5_dropZeros_22, s_X5_dropZeros_25, s_X5_dropZeros_28, s_X5_dropZeros_31, Option.toList_some, Option.toList_none, List.cons_append, List.nil_append, List.singleton_append, List.append_nil, true_and, and_true, true_or, or_true, andT, iteT, iteF, itT, itF, zS_b3 hq, at_1 hq f2]
    rw [s_X5_dropZeros_17]
    rw [hT2]
    by_cases hc : T.2 ((b 1).1 - 1 - i) 2 = 0
    · rw [iteF (by omega)]
      rw [if_pos hc] at f4
      simp (disch := first | assumption | omega | (simp (disch := omega) only [gU_row, gU_same, gU_i, gCp_row] <;> omega)) only [e_X5_dropZeros, s_X5_dropZeros_0, s_X5_dropZeros_1, s_X5_dropZeros_4, s_X5_dropZeros_5, s_X5_dropZeros_6, s_X5_dropZeros_8, s_X5_dropZeros_11, s_X5_dropZeros_12, s_X5_dropZeros_13, s_X5_dropZeros_14, s_X5_dropZeros_20, s_X5_dropZeros_21, s_X5_dropZeros_22, s_X5_dropZeros_25, s_X5_dropZeros_28, s_X5_dropZeros_31, Option.toList_some, Option.toList_none, List.cons_append, List.nil_append, List.singleton_append, List.append_nil, true_and, and_true, true_or, or_true, andT, iteT, iteF, itT, itF, zS_b3 hq]
      refine removeAt_1 hq f2 (by omega) (by omega) (fun m2 g1 g2 => ?_)
      simp (disch := first | assumption | omega | (simp (disch := omega) only [gU_row, gU_same, gU_i, gCp_row] <;> omega)) only [e_X5_dropZeros, s_X5_dropZeros_0, s_X5_dropZeros_1, s_X5_dropZeros_4, s_X5_dropZeros_5, s_X5_dropZeros_6, s_X5_dropZeros_8, s_X5_dropZeros_11, s_X5_dropZeros_12, s_X5_dropZeros_13, s_X5_dropZeros_14, s_X5_dropZeros_20, s_X5_dropZeros_21, s_X5_dropZeros_22, s_X5_dropZeros_25, s_X5_dropZeros_28, s_X5_dropZeros_31, Option.toList_some, Option.toList_none, List.cons_append, List.nil_append, List.singleton_append, List.append_nil, true_and, and_true, true_or, or_true, andT, iteT, iteF, itT, itF, zS_b3 hq, iadd_ok]
      rw [hT2, bSet_bSet] at g2
      refine hn _ _ ⟨by congr 4; omega, Fr_trans f1 g1, _, g2, ?_, f4⟩
      show _ ≤ T.1 - 1
      omega
    · rw [iteT hc]
      rw [if_neg hc] at f4
      simp (disch := first | assumption | omega | (simp (disch := omega) only [gU_row, gU_same, gU_i, gCp_row] <;> omega)) only [e_X5_dropZeros, s_X5_dropZeros_0, s_X5_dropZeros_1, s_X5_dropZeros_4, s_X5_dropZeros_5, s_X5_dropZeros_6, s_X5_dropZeros_8, s_X5_dropZeros_11, s_X5_dropZeros_12, s_X5_dropZeros_13, s_X5_dropZeros_14, s_X5_dropZeros_20, s_X5_dropZeros_21, s_X5_dropZeros_22, s_X5_dropZeros_25, s_X5_dropZeros_28, s_X5_dropZeros_31, Option.toList_some, Option.toList_none, List.cons_append, List.nil_append, List.singleton_append, List.append_nil, true_and, and_true, true_or, or_true, andT, iteT, iteF, itT, itF, zS_b3 hq, iadd_ok]
      exact hn _ _ ⟨by congr 4; omega, f1, T, f2, by omega, f4⟩
  · rintro ls m' ⟨rfl, f1, T, f2, f3, f4⟩
    rw [s_X5_dropZeros_7]
    rw [Nat.sub_self, tDropN] at f4
    subst f4
    simp (disch := first | assumption | omega | (simp (disch := omega) only [gU_row, gU_same, gU_i, gCp_row] <;> omega)) only [e_X5_dropZeros, s_X5_dropZeros_0, s_X5_dropZeros_1, s_X5_dropZeros_4, s_X5_dropZeros_5, s_X5_dropZeros_6, s_X5_dropZeros_8, s_X5_dropZeros_11, s_X5_dropZeros_12, s_X5_dropZeros_13, s_X5_dropZeros_14, s_X5_dropZeros_20, s_X5_dropZeros_21, s_X5_dropZeros_22, s_X5_dropZeros_25, s_X5_dropZeros_28, s_X5_dropZeros_31, Option.toList_some, Option.toList_none, List.cons_append, List.nil_append, List.singleton_append, List.append_nil, true_and, and_true, true_or, or_true, andT, iteT, iteF, itT, itF, zS_b3 hq]
    exact hk _ f1 f2
set_option maxHeartbeats 200000 in
theorem dropZeros_3 (hq : BB q) (h : BK m q b) (hk : ∀ m', Fr (q + 7) (q + 8) m m' → BK m' q (bSet b 3 (tDrop (b 3) 4)) → K none (w0 L z X Y) m') : C (d + 3) M_X5_dropZeros [(2, q + 7), (0, 4)] (w0 L z X Y) m K := by
  have hs := BK_s3 h
  have e : m (q + 7) 3 = (b 3).1 := by
    obtain ⟨ht, rfl⟩ := h
    rfl
  simp (disch := first | assumption | omega | (simp (disch := omega) only [gU_row, gU_same, gU_i, gCp_row] <;> omega)) only [e_X5_dropZeros, s_X5_dropZeros_0, s_X5_dropZeros_1, s_X5_dropZeros_4, s_X5_dropZeros_5, s_X5_dropZeros_6, s_X5_dropZeros_8, s_X5_dropZeros_11, s_X5_dropZeros_12, s_X5_dropZeros_13, s_X5_dropZeros_14, s_X5_dropZeros_17, s_X5_dropZeros_20, s_X5_dropZeros_21, s_X5_dropZeros_22, s_X5_dropZeros_25, s_X5_dropZeros_28, s_X5_dropZeros_31, Option.toList_some, Option.toList_none, List.cons_append, List.nil_append, List.singleton_append, List.append_nil, true_and, and_true, true_or, or_true, andT, iteT, iteF, itT, itF, zS_b7 hq, e, isub_ok]
  refine R_for0 (b 3).1.toNat (fun i ls m' => ls = [(2, q + 7), (0, 4), (0, (b 3).1 - 1 - i)] ∧ Fr (q + 7) (q + 8) m m' ∧ ∃ T : Tb, BK m' q (bSet b 3 T) ∧ (b 3).1 - i ≤ T.1 ∧ tDropN ((b 3).1.toNat - i) T 4 = tDrop (b 3) 4) ⟨by simp, Fr_refl, b 3, by rw [bSet_self]; exact h, by omega, rfl⟩ ?_ ?_
  · rintro i ls m' hi ⟨rfl, f1, T, f2, f3, f4⟩ hn
    rw [s_X5_dropZeros_7]
    have hT : (bSet b 3 T 3).1 = T.1 := by rw [bSet_eq]
    have hT2 : (bSet b 3 T 3) = T := by rw [bSet_eq]
    have es : (b 3).1.toNat - i = ((b 3).1.toNat - (i + 1)) + 1 := by omega
    have ec : (((b 3).1.toNat - (i + 1) : Nat) : Int) = (b 3).1 - 1 - i := by omega
    rw [es, tDropN, ec] at f4
    simp (disch := first | assumption | omega | (simp (disch := omega) only [gU_row, gU_same, gU_i, gCp_row] <;> omega)) only [e_X5_dropZeros, s_X5_dropZeros_0, s_X5_dropZeros_1, s_X5_dropZeros_4, s_X5_dropZeros_5, s_X5_dropZeros_6, s_X5_dropZeros_8, s_X5_dropZeros_11, s_X5_dropZeros_12, s_X5_dropZeros_13, s_X5_dropZeros_14, s_X5_dropZeros_20, s_X5_dropZeros_21, s_X5_dropZeros_22, s_X5_dropZeros_25, s_X5_dropZeros_28, s_X5_dropZeros_31, Option.toList_some, Option.toList_none, List.cons_append, List.nil_append, List.singleton_append, List.append_nil, true_and, and_true, true_or, or_true, andT, iteT, iteF, itT, itF, zS_b7 hq, at_3 hq f2]
    rw [s_X5_dropZeros_17]
    rw [hT2]
    by_cases hc : T.2 ((b 3).1 - 1 - i) 4 = 0
    · rw [iteF (by omega)]
      rw [if_pos hc] at f4
      simp (disch := first | assumption | omega | (simp (disch := omega) only [gU_row, gU_same, gU_i, gCp_row] <;> omega)) only [e_X5_dropZeros, s_X5_dropZeros_0, s_X5_dropZeros_1, s_X5_dropZeros_4, s_X5_dropZeros_5, s_X5_dropZeros_6, s_X5_dropZeros_8, s_X5_dropZeros_11, s_X5_dropZeros_12, s_X5_dropZeros_13, s_X5_dropZeros_14, s_X5_dropZeros_20, s_X5_dropZeros_21, s_X5_dropZeros_22, s_X5_dropZeros_25, s_X5_dropZeros_28, s_X5_dropZeros_31, Option.toList_some, Option.toList_none, List.cons_append, List.nil_append, List.singleton_append, List.append_nil, true_and, and_true, true_or, or_true, andT, iteT, iteF, itT, itF, zS_b7 hq]
      refine removeAt_3 hq f2 (by omega) (by omega) (fun m2 g1 g2 => ?_)
      simp (disch := first | assumption | omega | (simp (disch := omega) only [gU_row, gU_same, gU_i, gCp_row] <;> omega)) only [e_X5_dropZeros, s_X5_dropZeros_0, s_X5_dropZeros_1, s_X5_dropZeros_4, s_X5_dropZeros_5, s_X5_dropZeros_6, s_X5_dropZeros_8, s_X5_dropZeros_11, s_X5_dropZeros_12, s_X5_dropZeros_13, s_X5_dropZeros_14, s_X5_dropZeros_20, s_X5_dropZeros_21, s_X5_dropZeros_22, s_X5_dropZeros_25, s_X5_dropZeros_28, s_X5_dropZeros_31, Option.toList_some, Option.toList_none, List.cons_append, List.nil_append, List.singleton_append, List.append_nil, true_and, and_true, true_or, or_true, andT, iteT, iteF, itT, itF, zS_b7 hq, iadd_ok]
      rw [hT2, bSet_bSet] at g2
      refine hn _ _ ⟨by congr 4; omega, Fr_trans f1 g1, _, g2, ?_, f4⟩
      show _ ≤ T.1 - 1
      omega
    · rw [iteT hc]
      rw [if_neg hc] at f4
      simp (disch := first | assumption | omega | (simp (disch := omega) only [gU_row, gU_same, gU_i, gCp_row] <;> omega)) only [e_X5_dropZeros, s_X5_dropZeros_0, s_X5_dropZeros_1, s_X5_dropZeros_4, s_X5_dropZeros_5, s_X5_dropZeros_6, s_X5_dropZeros_8, s_X5_dropZeros_11, s_X5_dropZeros_12, s_X5_dropZeros_13, s_X5_dropZeros_14, s_X5_dropZeros_20, s_X5_dropZeros_21, s_X5_dropZeros_22, s_X5_dropZeros_25, s_X5_dropZeros_28, s_X5_dropZeros_31, Option.toList_some, Option.toList_none, List.cons_append, List.nil_append, List.singleton_append, List.append_nil, true_and, and_true, true_or, or_true, andT, iteT, iteF, itT, itF, zS_b7 hq, iadd_ok]
      exact hn _ _ ⟨by congr 4; omega, f1, T, f2, by omega, f4⟩
  · rintro ls m' ⟨rfl, f1, T, f2, f3, f4⟩
    rw [s_X5_dropZeros_7]
    rw [Nat.sub_self, tDropN] at f4
    subst f4
    simp (disch := first | assumption | omega | (simp (disch := omega) only [gU_row, gU_same, gU_i, gCp_row] <;> omega)) only [e_X5_dropZeros, s_X5_dropZeros_0, s_X5_dropZeros_1, s_X5_dropZeros_4, s_X5_dropZeros_5, s_X5_dropZeros_6, s_X5_dropZeros_8, s_X5_dropZeros_11, s_X5_dropZeros_12, s_X5_dropZeros_13, s_X5_dropZeros_14, s_X5_dropZeros_20, s_X5_dropZeros_21, s_X5_dropZeros_22, s_X5_dropZeros_25, s_X5_dropZeros_28, s_X5_dropZeros_31, Option.toList_some, Option.toList_none, List.cons_append, List.nil_append, List.singleton_append, List.append_nil, true_and, and_true, true_or, or_true, andT, iteT, iteF, itT, itF, zS_b7 hq]
    exact hk _ f1 f2
theorem tb_cpy {n W : Int} {f f' : Int → Int} (hW : 0 < W) (h2 : ∀ i, 0 ≤ i → i < n * W → f' i = f i) : tb n W f' = tb n W f := by
  unfold tb
  congr 1
  funext r c
  show (if _ then _ else _) = (if _ then _ else _)
  by_cases hi : 0 ≤ r ∧ r < n ∧ 0 ≤ c ∧ c < W
  · have hl2 : (r + 1) * W ≤ n * W := Int.mul_le_mul_of_nonneg_right (by omega) (by omega)
    have hl3 : 0 ≤ r * W := Int.mul_nonneg (by omega) (by omega)
    rw [Int.add_mul] at hl2
    rw [if_pos hi, if_pos hi, h2 _ (by omega) (by omega)]
  · rw [if_neg hi, if_neg hi]
set_option maxHeartbeats 200000 in
theorem copyFrom_0 (hq : BB q) (hq' : BB q') (hne : q ≠ q') (h : BK m q b) (h' : BK m q' b') (hk : ∀ m', Fr (q + 1) (q + 2) m m' → BK m' q (bSet b 0 (b' 0)) → K none (w0 L z X Y) m') : C (d + 1) M_X5_copyFrom [(2, q + 1), (2, q' + 1)] (w0 L z X Y) m K := by
  have hne := BB_ne hq hq' hne
  obtain ⟨ht, rfl⟩ := h
  obtain ⟨ht', rfl⟩ := h'
  unfold TBs at ht ht'
  have hw : m (q + 1) 1 = 6 := by omega
  have hs : 0 ≤ m (q' + 1) 3 ∧ m (q' + 1) 3 ≤ 5 := by omega
  have hq0 : 0 ≤ q := by rcases hq with hq | hq | hq <;> omega
  have hq0' : 0 ≤ q' := by rcases hq' with hq | hq | hq <;> omega
  simp (disch := first | assumption | omega | (simp (disch := omega) only [gU_row, gU_same, gU_i, gCp_row] <;> omega)) only [e_X5_copyFrom, s_X5_copyFrom_0, s_X5_copyFrom_1, s_X5_copyFrom_4, s_X5_copyFrom_5, s_X5_copyFrom_6, s_X5_copyFrom_9, s_X5_copyFrom_10, s_X5_copyFrom_13, s_X5_copyFrom_14, s_X5_copyFrom_17, s_X5_copyFrom_18, s_X5_copyFrom_19, s_X5_copyFrom_22, s_X5_copyFrom_23, s_X5_copyFrom_24, s_X5_copyFrom_27, s_X5_copyFrom_28, s_X5_copyFrom_31, s_X5_copyFrom_32, s_X5_copyFrom_35, s_X5_copyFrom_36, s_X5_copyFrom_37, s_X5_copyFrom_40, s_X5_copyFrom_43, Option.toList_some, Option.toList_none, List.cons_append, List.nil_append, List.singleton_append, List.append_nil, true_and, and_true, true_or, or_true, andT, iteT, iteF, itT, itF, zS_b1 hq, zP_b1_2 hq, zS_b2 hq, zS_b1 hq', zP_b1_2 hq', zS_b2 hq', hw, imul_ok, gCp_row, ne_eq, not_true_eq_false, if_false, ite_false]
  refine hk _ (fun a ha => by rw [gU_row (by omega), gCp_row (by omega)]) ⟨?_, ?_⟩
  · unfold TBs
    simp (disch := omega) only [gU_row, gU_same, gU_i, gCp_row]
    omega
  · refine bk_ext ?_ ?_ ?_ ?_ ?_ ?_ (fun t ht => by rw [bSet_ne (by omega), absB_6 ht, absB_6 ht])
    all_goals first
      | (simp (disch := omega) only [absB_0, absB_1, absB_2, absB_3, absB_4, absB_5, bSet_ne, gU_row, gCp_row]; done)
      | (simp (disch := omega) only [absB_0, absB_1, absB_2, absB_3, absB_4, absB_5, bSet_eq, gU_row, gU_same, gCp_rw]
         refine tb_cpy (by omega) (fun i h0 h1 => ?_)
         rw [if_pos (by omega)]
         congr 1
         omega)
set_option maxHeartbeats 200000 in
theorem copyFrom_1 (hq : BB q) (hq' : BB q') (hne : q ≠ q') (h : BK m q b) (h' : BK m q' b') (hk : ∀ m', Fr (q + 3) (q + 4) m m' → BK m' q (bSet b 1 (b' 1)) → K none (w0 L z X Y) m') : C (d + 1) M_X5_copyFrom [(2, q + 3), (2, q' + 3)] (w0 L z X Y) m K := by
  have hne := BB_ne hq hq' hne
  obtain ⟨ht, rfl⟩ := h
  obtain ⟨ht', rfl⟩ := h'
  unfold TBs at ht ht'
  have hw : m (q + 3) 1 = 3 := by omega
  have hs : 0 ≤ m (q' + 3) 3 ∧ m (q' + 3) 3 ≤ 8 := by omega
  have hq0 : 0 ≤ q := by rcases hq with hq | hq | hq <;> omega
  have hq0' : 0 ≤ q' := by rcases hq' with hq | hq | hq <;> omega
  simp (disch := first | assumption | omega | (simp (disch := omega) only [gU_row, gU_same, gU_i, gCp_row] <;> omega)) only [e_X5_copyFrom, s_X5_copyFrom_0, s_X5_copyFrom_1, s_X5_copyFrom_4, s_X5_copyFrom_5, s_X5_copyFrom_6, s_X5_copyFrom_9, s_X5_copyFrom_10, s_X5_copyFrom_13, s_X5_copyFrom_14, s_X5_copyFrom_17, s_X5_copyFrom_18, s_X5_copyFrom_19, s_X5_copyFrom_22, s_X5_copyFrom_23, s_X5_copyFrom_24, s_X5_copyFrom_27, s_X5_copyFrom_28, s_X5_copyFrom_31, s_X5_copyFrom_32, s_X5_copyFrom_35, s_X5_copyFrom_36, s_X5_copyFrom_37, s_X5_copyFrom_40, s_X5_copyFrom_43, Option.toList_some, Option.toList_none, List.cons_append, List.nil_append, List.singleton_append, List.append_nil, true_and, and_true, true_or, or_true, andT, iteT, iteF, itT, itF, zS_b3 hq, zP_b3_2 hq, zS_b4 hq, zS_b3 hq', zP_b3_2 hq', zS_b4 hq', hw, imul_ok, gCp_row, ne_eq, not_true_eq_false, if_false, ite_false]
  refine hk _ (fun a ha => by rw [gU_row (by omega), gCp_row (by omega)]) ⟨?_, ?_⟩
  · unfold TBs
    simp (disch := omega) only [gU_row, gU_same, gU_i, gCp_row]
    omega
  · refine bk_ext ?_ ?_ ?_ ?_ ?_ ?_ (fun t ht => by rw [bSet_ne (by omega), absB_6 ht, absB_6 ht])
    all_goals first
      | (simp (disch := omega) only [absB_0, absB_1, absB_2, absB_3, absB_4, absB_5, bSet_ne, gU_row, gCp_row]; done)
      | (simp (disch := omega) only [absB_0, absB_1, absB_2, absB_3, absB_4, absB_5, bSet_eq, gU_row, gU_same, gCp_rw]
         refine tb_cpy (by omega) (fun i h0 h1 => ?_)
         rw [if_pos (by omega)]
         congr 1
         omega)
set_option maxHeartbeats 200000 in
theorem copyFrom_2 (hq : BB q) (hq' : BB q') (hne : q ≠ q') (h : BK m q b) (h' : BK m q' b') (hk : ∀ m', Fr (q + 5) (q + 6) m m' → BK m' q (bSet b 2 (b' 2)) → K none (w0 L z X Y) m') : C (d + 1) M_X5_copyFrom [(2, q + 5), (2, q' + 5)] (w0 L z X Y) m K := by
  have hne := BB_ne hq hq' hne
  obtain ⟨ht, rfl⟩ := h
  obtain ⟨ht', rfl⟩ := h'
  unfold TBs at ht ht'
  have hw : m (q + 5) 1 = 6 := by omega
  have hs : 0 ≤ m (q' + 5) 3 ∧ m (q' + 5) 3 ≤ 6 := by omega
  have hq0 : 0 ≤ q := by rcases hq with hq | hq | hq <;> omega
  have hq0' : 0 ≤ q' := by rcases hq' with hq | hq | hq <;> omega
  simp (disch := first | assumption | omega | (simp (disch := omega) only [gU_row, gU_same, gU_i, gCp_row] <;> omega)) only [e_X5_copyFrom, s_X5_copyFrom_0, s_X5_copyFrom_1, s_X5_copyFrom_4, s_X5_copyFrom_5, s_X5_copyFrom_6, s_X5_copyFrom_9, s_X5_copyFrom_10, s_X5_copyFrom_13, s_X5_copyFrom_14, s_X5_copyFrom_17, s_X5_copyFrom_18, s_X5_copyFrom_19, s_X5_copyFrom_22, s_X5_copyFrom_23, s_X5_copyFrom_24, s_X5_copyFrom_27, s_X5_copyFrom_28, s_X5_copyFrom_31, s_X5_copyFrom_32, s_X5_copyFrom_35, s_X5_copyFrom_36, s_X5_copyFrom_37, s_X5_copyFrom_40, s_X5_copyFrom_43, Option.toList_some, Option.toList_none, List.cons_append, List.nil_append, List.singleton_append, List.append_nil, true_and, and_true, true_or, or_true, andT, iteT, iteF, itT, itF, zS_b5 hq, zP_b5_2 hq, zS_b6 hq, zS_b5 hq', zP_b5_2 hq', zS_b6 hq', hw, imul_ok, gCp_row, ne_eq, not_true_eq_false, if_false, ite_false]
  refine hk _ (fun a ha => by rw [gU_row (by omega), gCp_row (by omega)]) ⟨?_, ?_⟩
  · unfold TBs
    simp (disch := omega) only [gU_row, gU_same, gU_i, gCp_row]
    omega
  · refine bk_ext ?_ ?_ ?_ ?_ ?_ ?_ (fun t ht => by rw [bSet_ne (by omega), absB_6 ht, absB_6 ht])
    all_goals first
      | (simp (disch := omega) only [absB_0, absB_1, absB_2, absB_3, absB_4, absB_5, bSet_ne, gU_row, gCp_row]; done)
      | (simp (disch := omega) only [absB_0, absB_1, absB_2, absB_3, absB_4, absB_5, bSet_eq, gU_row, gU_same, gCp_rw]
         refine tb_cpy (by omega) (fun i h0 h1 => ?_)
         rw [if_pos (by omega)]
         congr 1
         omega)
set_option maxHeartbeats 200000 in
theorem copyFrom_3 (hq : BB q) (hq' : BB q') (hne : q ≠ q') (h : BK m q b) (h' : BK m q' b') (hk : ∀ m', Fr (q + 7) (q + 8) m m' → BK m' q (bSet b 3 (b' 3)) → K none (w0 L z X Y) m') : C (d + 1) M_X5_copyFrom [(2, q + 7), (2, q' + 7)] (w0 L z X Y) m K := by
  have hne := BB_ne hq hq' hne
  obtain ⟨ht, rfl⟩ := h
  obtain ⟨ht', rfl⟩ := h'
  unfold TBs at ht ht'
  have hw : m (q + 7) 1 = 5 := by omega
  have hs : 0 ≤ m (q' + 7) 3 ∧ m (q' + 7) 3 ≤ 24 := by omega
  have hq0 : 0 ≤ q := by rcases hq with hq | hq | hq <;> omega
  have hq0' : 0 ≤ q' := by rcases hq' with hq | hq | hq <;> omega
  simp (disch := first | assumption | omega | (simp (disch := omega) only [gU_row, gU_same, gU_i, gCp_row] <;> omega)) only [e_X5_copyFrom, s_X5_copyFrom_0, s_X5_copyFrom_1, s_X5_copyFrom_4, s_X5_copyFrom_5, s_X5_copyFrom_6, s_X5_copyFrom_9, s_X5_copyFrom_10, s_X5_copyFrom_13, s_X5_copyFrom_14, s_X5_copyFrom_17, s_X5_copyFrom_18, s_X5_copyFrom_19, s_X5_copyFrom_22, s_X5_copyFrom_23, s_X5_copyFrom_24, s_X5_copyFrom_27, s_X5_copyFrom_28, s_X5_copyFrom_31, s_X5_copyFrom_32, s_X5_copyFrom_35, s_X5_copyFrom_36, s_X5_copyFrom_37, s_X5_copyFrom_40, s_X5_copyFrom_43, Option.toList_some, Option.toList_none, List.cons_append, List.nil_append, List.singleton_append, List.append_nil, true_and, and_true, true_or, or_true, andT, iteT, iteF, itT, itF, zS_b7 hq, zP_b7_2 hq, zS_b8 hq, zS_b7 hq', zP_b7_2 hq', zS_b8 hq', hw, imul_ok, gCp_row, ne_eq, not_true_eq_false, if_false, ite_false]
  refine hk _ (fun a ha => by rw [gU_row (by omega), gCp_row (by omega)]) ⟨?_, ?_⟩
  · unfold TBs
    simp (disch := omega) only [gU_row, gU_same, gU_i, gCp_row]
    omega
  · refine bk_ext ?_ ?_ ?_ ?_ ?_ ?_ (fun t ht => by rw [bSet_ne (by omega), absB_6 ht, absB_6 ht])
    all_goals first
      | (simp (disch := omega) only [absB_0, absB_1, absB_2, absB_3, absB_4, absB_5, bSet_ne, gU_row, gCp_row]; done)
      | (simp (disch := omega) only [absB_0, absB_1, absB_2, absB_3, absB_4, absB_5, bSet_eq, gU_row, gU_same, gCp_rw]
         refine tb_cpy (by omega) (fun i h0 h1 => ?_)
         rw [if_pos (by omega)]
         congr 1
         omega)
set_option maxHeartbeats 200000 in
theorem copyFrom_4 (hq : BB q) (hq' : BB q') (hne : q ≠ q') (h : BK m q b) (h' : BK m q' b') (hk : ∀ m', Fr (q + 9) (q + 10) m m' → BK m' q (bSet b 4 (b' 4)) → K none (w0 L z X Y) m') : C (d + 1) M_X5_copyFrom [(2, q + 9), (2, q' + 9)] (w0 L z X Y) m K := by
  have hne := BB_ne hq hq' hne
  obtain ⟨ht, rfl⟩ := h
  obtain ⟨ht', rfl⟩ := h'
  unfold TBs at ht ht'
  have hw : m (q + 9) 1 = 2 := by omega
  have hs : 0 ≤ m (q' + 9) 3 ∧ m (q' + 9) 3 ≤ 4 := by omega
  have hq0 : 0 ≤ q := by rcases hq with hq | hq | hq <;> omega
  have hq0' : 0 ≤ q' := by rcases hq' with hq | hq | hq <;> omega
  simp (disch := first | assumption | omega | (simp (disch := omega) only [gU_row, gU_same, gU_i, gCp_row] <;> omega)) only [e_X5_copyFrom, s_X5_copyFrom_0, s_X5_copyFrom_1, s_X5_copyFrom_4, s_X5_copyFrom_5, s_X5_copyFrom_6, s_X5_copyFrom_9, s_X5_copyFrom_10, s_X5_copyFrom_13, s_X5_copyFrom_14, s_X5_copyFrom_17, s_X5_copyFrom_18, s_X5_copyFrom_19, s_X5_copyFrom_22, s_X5_copyFrom_23, s_X5_copyFrom_24, s_X5_copyFrom_27, s_X5_copyFrom_28, s_X5_copyFrom_31, s_X5_copyFrom_32, s_X5_copyFrom_35, s_X5_copyFrom_36, s_X5_copyFrom_37, s_X5_copyFrom_40, s_X5_copyFrom_43, Option.toList_some, Option.toList_none, List.cons_append, List.nil_append, List.singleton_append, List.append_nil, true_and, and_true, true_or, or_true, andT, iteT, iteF, itT, itF, zS_b9 hq, zP_b9_2 hq, zS_b10 hq, zS_b9 hq', zP_b9_2 hq', zS_b10 hq', hw, imul_ok, gCp_row, ne_eq, not_true_eq_false, if_false, ite_false]
  refine hk _ (fun a ha => by rw [gU_row (by omega), gCp_row (by omega)]) ⟨?_, ?_⟩
  · unfold TBs
    simp (disch := omega) only [gU_row, gU_same, gU_i, gCp_row]
    omega
  · refine bk_ext ?_ ?_ ?_ ?_ ?_ ?_ (fun t ht => by rw [bSet_ne (by omega), absB_6 ht, absB_6 ht])
    all_goals first
      | (simp (disch := omega) only [absB_0, absB_1, absB_2, absB_3, absB_4, absB_5, bSet_ne, gU_row, gCp_row]; done)
      | (simp (disch := omega) only [absB_0, absB_1, absB_2, absB_3, absB_4, absB_5, bSet_eq, gU_row, gU_same, gCp_rw]
         refine tb_cpy (by omega) (fun i h0 h1 => ?_)
         rw [if_pos (by omega)]
         congr 1
         omega)
set_option maxHeartbeats 200000 in
theorem copyFrom_5 (hq : BB q) (hq' : BB q') (hne : q ≠ q') (h : BK m q b) (h' : BK m q' b') (hk : ∀ m', Fr (q + 11) (q + 12) m m' → BK m' q (bSet b 5 (b' 5)) → K none (w0 L z X Y) m') : C (d + 1) M_X5_copyFrom [(2, q + 11), (2, q' + 11)] (w0 L z X Y) m K := by
  have hne := BB_ne hq hq' hne
  obtain ⟨ht, rfl⟩ := h
  obtain ⟨ht', rfl⟩ := h'
  unfold TBs at ht ht'
  have hw : m (q + 11) 1 = 2 := by omega
  have hs : 0 ≤ m (q' + 11) 3 ∧ m (q' + 11) 3 ≤ 8 := by omega
  have hq0 : 0 ≤ q := by rcases hq with hq | hq | hq <;> omega
  have hq0' : 0 ≤ q' := by rcases hq' with hq | hq | hq <;> omega
  simp (disch := first | assumption | omega | (simp (disch := omega) only [gU_row, gU_same, gU_i, gCp_row] <;> omega)) only [e_X5_copyFrom, s_X5_copyFrom_0, s_X5_copyFrom_1, s_X5_copyFrom_4, s_X5_copyFrom_5, s_X5_copyFrom_6, s_X5_copyFrom_9, s_X5_copyFrom_10, s_X5_copyFrom_13, s_X5_copyFrom_14, s_X5_copyFrom_17, s_X5_copyFrom_18, s_X5_copyFrom_19, s_X5_copyFrom_22, s_X5_copyFrom_23, s_X5_copyFrom_24, s_X5_copyFrom_27, s_X5_copyFrom_28, s_X5_copyFrom_31, s_X5_copyFrom_32, s_X5_copyFrom_35, s_X5_copyFrom_36, s_X5_copyFrom_37, s_X5_copyFrom_40, s_X5_copyFrom_43, Option.toList_some, Option.toList_none, List.cons_append, List.nil_append, List.singleton_append, List.append_nil, true_and, and_true, true_or, or_true, andT, iteT, iteF, itT, itF, zS_b11 hq, zP_b11_2 hq, zS_b12 hq, zS_b11 hq', zP_b11_2 hq', zS_b12 hq', hw, imul_ok, gCp_row, ne_eq, not_true_eq_false, if_false, ite_false]
  refine hk _ (fun a ha => by rw [gU_row (by omega), gCp_row (by omega)]) ⟨?_, ?_⟩
  · unfold TBs
    simp (disch := omega) only [gU_row, gU_same, gU_i, gCp_row]
    omega
  · refine bk_ext ?_ ?_ ?_ ?_ ?_ ?_ (fun t ht => by rw [bSet_ne (by omega), absB_6 ht, absB_6 ht])
    all_goals first
      | (simp (disch := omega) only [absB_0, absB_1, absB_2, absB_3, absB_4, absB_5, bSet_ne, gU_row, gCp_row]; done)
      | (simp (disch := omega) only [absB_0, absB_1, absB_2, absB_3, absB_4, absB_5, bSet_eq, gU_row, gU_same, gCp_rw]
         refine tb_cpy (by omega) (fun i h0 h1 => ?_)
         rw [if_pos (by omega)]
         congr 1
         omega)
end TAB3
