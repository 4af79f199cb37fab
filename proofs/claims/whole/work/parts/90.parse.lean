/-! the set-up's parser: pure, and the class's. -/
def num (S : TX) : Nat → Int → Int → Int × Int
  | 0, v, p => (v, p)
  | k + 1, v, p => if p < S.1 ∧ 48 ≤ S.2 p ∧ S.2 p ≤ 57 then num S k (10 * v + (S.2 p - 48)) (p + 1) else (v, p)
def pf (S : TX) : List Int → Int → Int → Int → (Int → Int) → Int × Int × (Int → Int)
  | [], p, _, _, g => (1, p, g)
  | c :: cs, p, neg, fl, g => if c = 45 then (if p < S.1 ∧ S.2 p = 45 then pf S cs (p + 1) 1 fl g else pf S cs p 0 fl g)
    else if c = 46 then (if p < S.1 ∧ S.2 p = 46 then pf S cs (p + 1) neg fl g else (0, p, g))
    else if (num S (c - 48).toNat 0 p).2 = p then (0, p, g) else pf S cs (num S (c - 48).toNat 0 p).2 0 (fl + 1) (up1 g fl (if neg = 1 then -(num S (c - 48).toNat 0 p).1 else (num S (c - 48).toNat 0 p).1))
def fm (l : Int) : List Int := if l = 116 then [49, 49, 49, 46, 51, 46, 45, 51] else if l = 109 then [46, 45, 50, 46, 45, 49, 46, 51] else if l = 111 then [49, 49, 49, 49, 49, 46, 51] else if l = 112 then [49, 46, 51] else []
def cnt : List Int → Int
  | [] => 0
  | c :: cs => if c = 45 ∨ c = 46 then cnt cs else cnt cs + 1
theorem cnt_nn : ∀ l, 0 ≤ cnt l
  | [] => Int.le_refl 0
  | c :: cs => by
    have := cnt_nn cs
    unfold cnt
    split <;> omega
def fch (c : Int) : Prop := c = 45 ∨ c = 46 ∨ c = 49 ∨ c = 50 ∨ c = 51
theorem num_bd {S : TX} : ∀ (k : Nat) (v p : Int), k ≤ 3 → p ≤ S.1 → 0 ≤ v → v * 10 ^ k + 10 ^ k ≤ 1000 → (0 ≤ (num S k v p).1 ∧ (num S k v p).1 ≤ 999) ∧ p ≤ (num S k v p).2 ∧ (num S k v p).2 ≤ S.1 := by
  intro k
  induction k with
  | zero => intro v p _ h1 h2 h3; simp only [num]; omega
  | succ k ih =>
    intro v p h0 h1 h2 h3
    rw [num]
    by_cases h : p < S.1 ∧ 48 ≤ S.2 p ∧ S.2 p ≤ 57
    · rw [if_pos h]
      have e : (10 : Int) ^ (k + 1) = 10 ^ k * 10 := Int.pow_succ ..
      have hp : (0 : Int) < 10 ^ k := Int.pow_pos (by omega)
      have : (10 * v + (S.2 p - 48)) * 10 ^ k + 10 ^ k ≤ 1000 := by
        have e2 : (10 * v + (S.2 p - 48)) * 10 ^ k + 10 ^ k ≤ (10 * v + 9) * 10 ^ k + 10 ^ k := by
          have := Int.mul_le_mul_of_nonneg_right (show 10 * v + (S.2 p - 48) ≤ 10 * v + 9 by omega) (Int.le_of_lt hp)
          omega
        have e3 : (10 * v + 9) * (10 : Int) ^ k + 10 ^ k = v * 10 ^ (k + 1) + 10 ^ (k + 1) := by rw [e, Int.add_mul]; generalize (10 : Int) ^ k = q; rw [Int.mul_comm 10 v, Int.mul_assoc, Int.mul_comm q 10]; omega
        omega
      have := ih (10 * v + (S.2 p - 48)) (p + 1) (by omega) (by omega) (by omega) this
      omega
    · rw [if_neg h]
      have hp : (0 : Int) < 10 ^ (k + 1) := Int.pow_pos (by omega)
      have h4 : v ≤ v * 10 ^ (k + 1) := by
        have := Int.mul_le_mul_of_nonneg_left (show (1 : Int) ≤ 10 ^ (k + 1) by omega) h2
        omega
      show (0 ≤ v ∧ v ≤ 999) ∧ p ≤ p ∧ p ≤ S.1
      omega
theorem fch_iand {v : Int} (h : fch v) : i2c (iand v 255) = v := by
  rcases h with rfl | rfl | rfl | rfl | rfl <;> decide +kernel
theorem gU_self {m : gM} {a i v : Int} (h : m a i = v) : gU m a i v = m := by
  funext a' i'
  unfold gU
  split
  · rename_i h1; obtain ⟨rfl, rfl⟩ := h1; exact h.symm
  · rfl
theorem gU_over {m : gM} {a i v v' : Int} : gU (gU m a i v) a i v' = gU m a i v' := by
  funext a' i'
  simp only [gU]
  split <;> rfl
section PARSE
variable {L d N : Nat} {z X Y q r v t c n g j k e s o u x y i p : Int} {w : gW} {m m' : gM} {K : Option gV → gW → gM → Prop} {S : TX} {xs : Int → Int} {fs : List Int}
theorem j_charAt (h0 : 0 ≤ i) (h1 : i < (N : Int)) (hs : wS (w0 L z X Y) s = (120, 0)) (hp : wP (w0 L z X Y) s 0 = q) (hq : wS (w0 L z X Y) q = (110, N)) (e0 : m s 1 = 0) (hf : fch (m q i)) : C (d + 4) M_J0_charAt_5068e [(2, s), (0, i)] (w0 L z X Y) m K = K (some (0, m q i)) (w0 L z X Y) m := by
  have hf' := fch_iand hf
  have hb : 0 ≤ m q i ∧ m q i ≤ 65535 := by unfold fch at hf; omega
  simp (disch := first | assumption | omega | (simp (disch := omega) only [gU_row, gU_same, gU_i, gCp_row] <;> omega)) only [e_J0_charAt_5068e, s_J0_charAt_5068e_0, s_J0_charAt_5068e_1, s_J0_charAt_5068e_4, s_J0_charAt_5068e_7, s_J0_charAt_5068e_8, s_J0_charAt_5068e_11, s_J0_charAt_5068e_12, s_J0_charAt_5068e_15, s_J0_charAt_5068e_16, s_J0_charAt_5068e_17, s_J0_charAt_5068e_20, e_J0_isLatin1_aae02, s_J0_isLatin1_aae02_0, s_J0_isLatin1_aae02_3, s_J0_isLatin1_aae02_6, s_J0_isLatin1_aae02_7, s_J0_isLatin1_aae02_10, s_J0_isLatin1_aae02_13, s_J0_isLatin1_aae02_14, s_J0_isLatin1_aae02_17, s_J0_isLatin1_aae02_18, e_J1_charAt_3b067, s_J1_charAt_3b067_0, s_J1_charAt_3b067_1, s_J1_charAt_3b067_2, s_J1_charAt_3b067_3, s_J1_charAt_3b067_6, s_J1_charAt_3b067_7, s_J1_charAt_3b067_8, s_J1_charAt_3b067_9, s_J1_charAt_3b067_12, s_J1_charAt_3b067_13, s_J1_charAt_3b067_14, e_J0_checkIndex_df160, s_J0_checkIndex_df160_0, s_J0_checkIndex_df160_1, s_J0_checkIndex_df160_2, s_J0_checkIndex_df160_5, s_J0_checkIndex_df160_8, s_J0_checkIndex_df160_9, e_J3_checkIndex_8e157, s_J3_checkIndex_8e157_0, s_J3_checkIndex_8e157_1, s_J3_checkIndex_8e157_4, s_J3_checkIndex_8e157_5, s_J3_checkIndex_8e157_6, s_J3_checkIndex_8e157_9, s_J3_checkIndex_8e157_10, s_J3_checkIndex_8e157_11, s_J3_checkIndex_8e157_16, s_J3_checkIndex_8e157_17, ↓reduceIte, Option.toList_some, Option.toList_none, List.cons_append, List.nil_append, List.singleton_append, List.append_nil, true_and, and_true, true_or, or_true, andT, iteT, iteF, itT, itF, hs, hp, hq, e0, hf']
theorem j_length (hs : wS (w0 L z X Y) s = (120, 0)) (hp : wP (w0 L z X Y) s 0 = q) (hq : wS (w0 L z X Y) q = (110, N)) (e0 : m s 1 = 0) (hn : ishr (N : Int) 0 = N) : C (d + 2) M_J0_length_8abf5 [(2, s)] (w0 L z X Y) m K = K (some (0, (N : Int))) (w0 L z X Y) m := by
  simp (disch := first | assumption | omega | (simp (disch := omega) only [gU_row, gU_same, gU_i, gCp_row] <;> omega)) only [e_J0_length_8abf5, s_J0_length_8abf5_0, s_J0_length_8abf5_1, s_J0_length_8abf5_4, s_J0_length_8abf5_5, s_J0_length_8abf5_6, s_J0_length_8abf5_9, s_J0_length_8abf5_10, e_J0_coder_7d493, s_J0_coder_7d493_0, s_J0_coder_7d493_3, s_J0_coder_7d493_6, s_J0_coder_7d493_7, s_J0_coder_7d493_10, s_J0_coder_7d493_13, s_J0_coder_7d493_14, ↓reduceIte, Option.toList_some, Option.toList_none, List.cons_append, List.nil_append, List.singleton_append, List.append_nil, true_and, and_true, true_or, or_true, andT, iteT, iteF, itT, itF, hs, hp, hq, e0, hn]
theorem c_skip_T (h1 : m 188 5 < m 188 0) (h0 : 0 ≤ m 188 5) (h2 : m 188 0 ≤ 100) (h3 : m 201 (m 188 5) = c) : C (d + 1) M_X4_skip [(2, 188), (0, c)] (w0 L z X Y) m K = K (some (0, 1)) (w0 L z X Y) (gU m 188 5 (m 188 5 + 1)) := by
  simp (disch := first | assumption | omega | (simp (disch := omega) only [gU_row, gU_same, gU_i, gCp_row] <;> omega)) only [e_X4_skip, s_X4_skip_0, s_X4_skip_1, s_X4_skip_4, s_X4_skip_5, s_X4_skip_8, s_X4_skip_11, s_X4_skip_12, s_X4_skip_15, s_X4_skip_16, s_X4_skip_19, s_X4_skip_20, s_X4_skip_21, s_X4_skip_24, s_X4_skip_25, s_X4_skip_26, s_X4_skip_27, s_X4_skip_28, s_X4_skip_31, s_X4_skip_32, s_X4_skip_33, s_X4_skip_36, s_X4_skip_37, ↓reduceIte, Option.toList_some, Option.toList_none, List.cons_append, List.nil_append, List.singleton_append, List.append_nil, true_and, and_true, true_or, or_true, andT, iteT, iteF, itT, itF, zS_188, zP_188_4, zS_201, iadd_ok, h3]
theorem c_skip_F (h0 : 0 ≤ m 188 5) (h2 : m 188 0 ≤ 100) (h3 : ¬ (m 188 5 < m 188 0 ∧ m 201 (m 188 5) = c)) : C (d + 1) M_X4_skip [(2, 188), (0, c)] (w0 L z X Y) m K = K (some (0, 0)) (w0 L z X Y) m := by
  by_cases h1 : m 188 5 < m 188 0
  · have h4 : ¬ m 201 (m 188 5) = c := fun h => h3 ⟨h1, h⟩
    simp (disch := first | assumption | omega | (simp (disch := omega) only [gU_row, gU_same, gU_i, gCp_row] <;> omega)) only [e_X4_skip, s_X4_skip_0, s_X4_skip_1, s_X4_skip_4, s_X4_skip_5, s_X4_skip_8, s_X4_skip_11, s_X4_skip_12, s_X4_skip_15, s_X4_skip_16, s_X4_skip_19, s_X4_skip_20, s_X4_skip_21, s_X4_skip_24, s_X4_skip_25, s_X4_skip_26, s_X4_skip_27, s_X4_skip_28, s_X4_skip_31, s_X4_skip_32, s_X4_skip_33, s_X4_skip_36, s_X4_skip_37, ↓reduceIte, Option.toList_some, Option.toList_none, List.cons_append, List.nil_append, List.singleton_append, List.append_nil, true_and, and_true, true_or, or_true, andT, iteT, iteF, itT, itF, zS_188, zP_188_4, zS_201, iadd_ok, h4]
  · simp (disch := first | assumption | omega | (simp (disch := omega) only [gU_row, gU_same, gU_i, gCp_row] <;> omega)) only [e_X4_skip, s_X4_skip_0, s_X4_skip_1, s_X4_skip_4, s_X4_skip_5, s_X4_skip_8, s_X4_skip_11, s_X4_skip_12, s_X4_skip_15, s_X4_skip_16, s_X4_skip_19, s_X4_skip_20, s_X4_skip_21, s_X4_skip_24, s_X4_skip_25, s_X4_skip_26, s_X4_skip_27, s_X4_skip_28, s_X4_skip_31, s_X4_skip_32, s_X4_skip_33, s_X4_skip_36, s_X4_skip_37, ↓reduceIte, Option.toList_some, Option.toList_none, List.cons_append, List.nil_append, List.singleton_append, List.append_nil, true_and, and_true, true_or, or_true, andT, iteT, iteF, itT, itF, zS_188, zP_188_4, zS_201, iadd_ok]
theorem c_num_lp (hS : TXc m S) (ho : TXo S) {p0 k : Int} {v' p' : Int} (hk : K (some (0, if p' = p0 then -1 else v')) (w0 L z X Y) (gU m 188 5 p')) : ∀ (j : Nat) (v p : Int) (a4 : gV) (i : Int), k = i + j → 0 ≤ i → k ≤ 3 → j ≤ 3 → 0 ≤ p0 → p0 ≤ p → p ≤ S.1 → 0 ≤ v → v ≤ 999 → (p = p0 → v = 0) → num S j v p = (v', p') → v * 10 ^ j + 10 ^ j ≤ 1000 → R d M_X4_parseNumber 4 [(2, 188), (0, k), (0, if p = p0 then -1 else v), (0, i), a4] [] (w0 L z X Y) (gU m 188 5 p) K := by
  obtain ⟨e1, e2⟩ := hS
  obtain ⟨⟨o1, o2⟩, o3⟩ := ho
  have e3 : ∀ p, gU m 188 5 p 188 0 = S.1 := fun p => by rw [gU_ne (by omega)]; exact e1
  intro j
  induction j with
  | zero =>
    intro v p a4 i hj i0 k3 j3 h0 h1 h2 v0 v9 hv hn hB
    rw [num] at hn
    injection hn with h3 h4
    rw [h3, h4, s_X4_parseNumber_4]
    simp (disch := first | assumption | omega | (simp (disch := omega) only [gU_row, gU_same, gU_i, gCp_row] <;> omega)) only [e_X4_parseNumber, s_X4_parseNumber_0, s_X4_parseNumber_1, s_X4_parseNumber_2, s_X4_parseNumber_3, s_X4_parseNumber_5, s_X4_parseNumber_6, s_X4_parseNumber_9, s_X4_parseNumber_10, s_X4_parseNumber_13, s_X4_parseNumber_14, s_X4_parseNumber_17, s_X4_parseNumber_20, s_X4_parseNumber_21, s_X4_parseNumber_24, s_X4_parseNumber_25, s_X4_parseNumber_28, s_X4_parseNumber_29, s_X4_parseNumber_31, s_X4_parseNumber_32, s_X4_parseNumber_34, s_X4_parseNumber_36, s_X4_parseNumber_39, s_X4_parseNumber_41, s_X4_parseNumber_43, s_X4_parseNumber_46, s_X4_parseNumber_47, s_X4_parseNumber_48, s_X4_parseNumber_49, s_X4_parseNumber_50, s_X4_parseNumber_53, s_X4_parseNumber_55, s_X4_parseNumber_56, s_X4_parseNumber_58, s_X4_parseNumber_59, s_X4_parseNumber_60, s_X4_parseNumber_61, s_X4_parseNumber_62, s_X4_parseNumber_65, s_X4_parseNumber_66, s_X4_parseNumber_67, s_X4_parseNumber_70, s_X4_parseNumber_73, s_X4_parseNumber_76, s_X4_parseNumber_77, ↓reduceIte, Option.toList_some, Option.toList_none, List.cons_append, List.nil_append, List.singleton_append, List.append_nil, true_and, and_true, true_or, or_true, andT, iteT, iteF, itT, itF, zS_188, zP_188_4, zS_201]
    exact hk
  | succ j ih =>
    intro v p a4 i hj i0 k3 j3 h0 h1 h2 v0 v9 hv hn hB
    rw [num] at hn
    rw [s_X4_parseNumber_4]
    by_cases h3 : p < S.1 ∧ 48 ≤ S.2 p ∧ S.2 p ≤ 57
    · rw [if_pos h3] at hn
      have e4 : gU m 188 5 p 201 p = S.2 p := by rw [gU_row (by omega)]; exact e2 p (by omega) h3.1
      have e5 : max (if p = p0 then -1 else v) 0 = v := by split <;> omega
      have hb := num_bd (S := S) (j + 1) v p j3 h2 v0 hB
      have e : (10 : Int) ^ (j + 1) = 10 ^ j * 10 := Int.pow_succ ..
      have hp : (0 : Int) < 10 ^ j := Int.pow_pos (by omega)
      have hB' : (10 * v + (S.2 p - 48)) * 10 ^ j + 10 ^ j ≤ 1000 := by
        have e2 : (10 * v + (S.2 p - 48)) * 10 ^ j + 10 ^ j ≤ (10 * v + 9) * 10 ^ j + 10 ^ j := by
          have := Int.mul_le_mul_of_nonneg_right (show 10 * v + (S.2 p - 48) ≤ 10 * v + 9 by omega) (Int.le_of_lt hp)
          omega
        have e3 : (10 * v + 9) * (10 : Int) ^ j + 10 ^ j = v * 10 ^ (j + 1) + 10 ^ (j + 1) := by rw [e, Int.add_mul]; generalize (10 : Int) ^ j = q; rw [Int.mul_comm 10 v, Int.mul_assoc, Int.mul_comm q 10]; omega
        omega
      have h9 : 10 * v + (S.2 p - 48) ≤ 999 := by
        have := Int.mul_le_mul_of_nonneg_left (show (1 : Int) ≤ 10 ^ j by omega) (show 0 ≤ 10 * v + (S.2 p - 48) by omega)
        omega
      have := ih (10 * v + (S.2 p - 48)) (p + 1) (0, S.2 p - 48) (i + 1) (by omega) (by omega) k3 (by omega) h0 (by omega) (by omega) (by omega) h9 (fun h => by omega) hn hB'
      rw [if_neg (by omega)] at this
      simp (disch := first | assumption | omega | (simp (disch := omega) only [gU_row, gU_same, gU_i, gCp_row] <;> omega)) only [e_X4_parseNumber, s_X4_parseNumber_0, s_X4_parseNumber_1, s_X4_parseNumber_2, s_X4_parseNumber_3, s_X4_parseNumber_5, s_X4_parseNumber_6, s_X4_parseNumber_9, s_X4_parseNumber_10, s_X4_parseNumber_13, s_X4_parseNumber_14, s_X4_parseNumber_17, s_X4_parseNumber_20, s_X4_parseNumber_21, s_X4_parseNumber_24, s_X4_parseNumber_25, s_X4_parseNumber_28, s_X4_parseNumber_29, s_X4_parseNumber_31, s_X4_parseNumber_32, s_X4_parseNumber_34, s_X4_parseNumber_36, s_X4_parseNumber_39, s_X4_parseNumber_41, s_X4_parseNumber_43, s_X4_parseNumber_46, s_X4_parseNumber_47, s_X4_parseNumber_48, s_X4_parseNumber_49, s_X4_parseNumber_50, s_X4_parseNumber_53, s_X4_parseNumber_55, s_X4_parseNumber_56, s_X4_parseNumber_58, s_X4_parseNumber_59, s_X4_parseNumber_60, s_X4_parseNumber_61, s_X4_parseNumber_62, s_X4_parseNumber_65, s_X4_parseNumber_66, s_X4_parseNumber_67, s_X4_parseNumber_70, s_X4_parseNumber_73, s_X4_parseNumber_76, s_X4_parseNumber_77, ↓reduceIte, Option.toList_some, Option.toList_none, List.cons_append, List.nil_append, List.singleton_append, List.append_nil, true_and, and_true, true_or, or_true, andT, iteT, iteF, itT, itF, zS_188, zP_188_4, zS_201, e3, e4, gU_same, gU_over, isub_ok, imax_eq, e5, imul_ok, iadd_ok, Int.mul_comm v 10]
      exact this
    · rw [if_neg h3] at hn
      injection hn with h4 h5
      by_cases h6 : p < S.1
      · have e4 : gU m 188 5 p 201 p = S.2 p := by rw [gU_row (by omega)]; exact e2 p (by omega) h6
        have hp := o3 p (by omega) h6
        subst h4 h5
        by_cases h7 : S.2 p < 48
        · simp (disch := first | assumption | omega | (simp (disch := omega) only [gU_row, gU_same, gU_i, gCp_row] <;> omega)) only [e_X4_parseNumber, s_X4_parseNumber_0, s_X4_parseNumber_1, s_X4_parseNumber_2, s_X4_parseNumber_3, s_X4_parseNumber_5, s_X4_parseNumber_6, s_X4_parseNumber_9, s_X4_parseNumber_10, s_X4_parseNumber_13, s_X4_parseNumber_14, s_X4_parseNumber_17, s_X4_parseNumber_20, s_X4_parseNumber_21, s_X4_parseNumber_24, s_X4_parseNumber_25, s_X4_parseNumber_28, s_X4_parseNumber_29, s_X4_parseNumber_31, s_X4_parseNumber_32, s_X4_parseNumber_34, s_X4_parseNumber_36, s_X4_parseNumber_39, s_X4_parseNumber_41, s_X4_parseNumber_43, s_X4_parseNumber_46, s_X4_parseNumber_47, s_X4_parseNumber_48, s_X4_parseNumber_49, s_X4_parseNumber_50, s_X4_parseNumber_53, s_X4_parseNumber_55, s_X4_parseNumber_56, s_X4_parseNumber_58, s_X4_parseNumber_59, s_X4_parseNumber_60, s_X4_parseNumber_61, s_X4_parseNumber_62, s_X4_parseNumber_65, s_X4_parseNumber_66, s_X4_parseNumber_67, s_X4_parseNumber_70, s_X4_parseNumber_73, s_X4_parseNumber_76, s_X4_parseNumber_77, ↓reduceIte, Option.toList_some, Option.toList_none, List.cons_append, List.nil_append, List.singleton_append, List.append_nil, true_and, and_true, true_or, or_true, andT, iteT, iteF, itT, itF, zS_188, zP_188_4, zS_201, e3, e4, gU_same, isub_ok]
          exact hk
        · simp (disch := first | assumption | omega | (simp (disch := omega) only [gU_row, gU_same, gU_i, gCp_row] <;> omega)) only [e_X4_parseNumber, s_X4_parseNumber_0, s_X4_parseNumber_1, s_X4_parseNumber_2, s_X4_parseNumber_3, s_X4_parseNumber_5, s_X4_parseNumber_6, s_X4_parseNumber_9, s_X4_parseNumber_10, s_X4_parseNumber_13, s_X4_parseNumber_14, s_X4_parseNumber_17, s_X4_parseNumber_20, s_X4_parseNumber_21, s_X4_parseNumber_24, s_X4_parseNumber_25, s_X4_parseNumber_28, s_X4_parseNumber_29, s_X4_parseNumber_31, s_X4_parseNumber_32, s_X4_parseNumber_34, s_X4_parseNumber_36, s_X4_parseNumber_39, s_X4_parseNumber_41, s_X4_parseNumber_43, s_X4_parseNumber_46, s_X4_parseNumber_47, s_X4_parseNumber_48, s_X4_parseNumber_49, s_X4_parseNumber_50, s_X4_parseNumber_53, s_X4_parseNumber_55, s_X4_parseNumber_56, s_X4_parseNumber_58, s_X4_parseNumber_59, s_X4_parseNumber_60, s_X4_parseNumber_61, s_X4_parseNumber_62, s_X4_parseNumber_65, s_X4_parseNumber_66, s_X4_parseNumber_67, s_X4_parseNumber_70, s_X4_parseNumber_73, s_X4_parseNumber_76, s_X4_parseNumber_77, ↓reduceIte, Option.toList_some, Option.toList_none, List.cons_append, List.nil_append, List.singleton_append, List.append_nil, true_and, and_true, true_or, or_true, andT, iteT, iteF, itT, itF, zS_188, zP_188_4, zS_201, e3, e4, gU_same, isub_ok]
          exact hk
      · subst h4 h5
        simp (disch := first | assumption | omega | (simp (disch := omega) only [gU_row, gU_same, gU_i, gCp_row] <;> omega)) only [e_X4_parseNumber, s_X4_parseNumber_0, s_X4_parseNumber_1, s_X4_parseNumber_2, s_X4_parseNumber_3, s_X4_parseNumber_5, s_X4_parseNumber_6, s_X4_parseNumber_9, s_X4_parseNumber_10, s_X4_parseNumber_13, s_X4_parseNumber_14, s_X4_parseNumber_17, s_X4_parseNumber_20, s_X4_parseNumber_21, s_X4_parseNumber_24, s_X4_parseNumber_25, s_X4_parseNumber_28, s_X4_parseNumber_29, s_X4_parseNumber_31, s_X4_parseNumber_32, s_X4_parseNumber_34, s_X4_parseNumber_36, s_X4_parseNumber_39, s_X4_parseNumber_41, s_X4_parseNumber_43, s_X4_parseNumber_46, s_X4_parseNumber_47, s_X4_parseNumber_48, s_X4_parseNumber_49, s_X4_parseNumber_50, s_X4_parseNumber_53, s_X4_parseNumber_55, s_X4_parseNumber_56, s_X4_parseNumber_58, s_X4_parseNumber_59, s_X4_parseNumber_60, s_X4_parseNumber_61, s_X4_parseNumber_62, s_X4_parseNumber_65, s_X4_parseNumber_66, s_X4_parseNumber_67, s_X4_parseNumber_70, s_X4_parseNumber_73, s_X4_parseNumber_76, s_X4_parseNumber_77, ↓reduceIte, Option.toList_some, Option.toList_none, List.cons_append, List.nil_append, List.singleton_append, List.append_nil, true_and, and_true, true_or, or_true, andT, iteT, iteF, itT, itF, zS_188, zP_188_4, zS_201, e3, gU_same, isub_ok]
        exact hk
theorem c_number {k : Int} (hS : TXc m S) (ho : TXo S) (hp : m 188 5 = p) (h0 : 0 ≤ p) (h1 : p ≤ S.1) (k0 : 1 ≤ k) (k3 : k ≤ 3) (hk : K (some (0, if (num S k.toNat 0 p).2 = p then -1 else (num S k.toNat 0 p).1)) (w0 L z X Y) (gU m 188 5 (num S k.toNat 0 p).2)) : C (d + 1) M_X4_parseNumber [(2, 188), (0, k)] (w0 L z X Y) m K := by
  have := c_num_lp (d := d) (p0 := p) (k := k) hS ho hk k.toNat 0 p (3, 0) 0 (by omega) (by omega) k3 (by omega) h0 (by omega) h1 (by omega) (by omega) (fun _ => rfl) rfl (by
    have : k.toNat = 1 ∨ k.toNat = 2 ∨ k.toNat = 3 := by omega
    rcases this with h | h | h <;> rw [h] <;> decide)
  rw [if_pos rfl, gU_self hp] at this
  simp (disch := first | assumption | omega | (simp (disch := omega) only [gU_row, gU_same, gU_i, gCp_row] <;> omega)) only [e_X4_parseNumber, s_X4_parseNumber_0, s_X4_parseNumber_1, s_X4_parseNumber_2, s_X4_parseNumber_3, s_X4_parseNumber_5, s_X4_parseNumber_6, s_X4_parseNumber_9, s_X4_parseNumber_10, s_X4_parseNumber_13, s_X4_parseNumber_14, s_X4_parseNumber_17, s_X4_parseNumber_20, s_X4_parseNumber_21, s_X4_parseNumber_24, s_X4_parseNumber_25, s_X4_parseNumber_28, s_X4_parseNumber_29, s_X4_parseNumber_31, s_X4_parseNumber_32, s_X4_parseNumber_34, s_X4_parseNumber_36, s_X4_parseNumber_39, s_X4_parseNumber_41, s_X4_parseNumber_43, s_X4_parseNumber_46, s_X4_parseNumber_47, s_X4_parseNumber_48, s_X4_parseNumber_49, s_X4_parseNumber_50, s_X4_parseNumber_53, s_X4_parseNumber_55, s_X4_parseNumber_56, s_X4_parseNumber_58, s_X4_parseNumber_59, s_X4_parseNumber_60, s_X4_parseNumber_61, s_X4_parseNumber_62, s_X4_parseNumber_65, s_X4_parseNumber_66, s_X4_parseNumber_67, s_X4_parseNumber_70, s_X4_parseNumber_73, s_X4_parseNumber_76, s_X4_parseNumber_77, ↓reduceIte, Option.toList_some, Option.toList_none, List.cons_append, List.nil_append, List.singleton_append, List.append_nil, true_and, and_true, true_or, or_true, andT, iteT, iteF, itT, itF]
  exact this
end PARSE
