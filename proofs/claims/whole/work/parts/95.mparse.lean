/-! the reference's parser. -/
theorem pf_bd {S : TX} : ∀ (cs : List Int) (p neg fl : Int) (g : Int → Int), 0 ≤ p → p ≤ S.1 → (∀ c ∈ cs, fch c) → ((pf S cs p neg fl g).1 = 0 ∨ (pf S cs p neg fl g).1 = 1) ∧ 0 ≤ (pf S cs p neg fl g).2.1 ∧ (pf S cs p neg fl g).2.1 ≤ S.1
  | [], p, _, _, _, p0, p1, _ => ⟨Or.inr rfl, p0, p1⟩
  | c :: cs, p, neg, fl, g, p0, p1, hc => by
    have hc' : ∀ c ∈ cs, fch c := fun x hx => hc x (List.mem_cons_of_mem _ hx)
    have hf := hc c List.mem_cons_self
    rw [pf]
    by_cases h45 : c = 45
    · rw [if_pos h45]
      by_cases h : p < S.1 ∧ S.2 p = 45
      · rw [if_pos h]
        exact pf_bd cs (p + 1) 1 fl g (by omega) (by omega) hc'
      · rw [if_neg h]
        exact pf_bd cs p 0 fl g p0 p1 hc'
    · rw [if_neg h45]
      by_cases h46 : c = 46
      · rw [if_pos h46]
        by_cases h : p < S.1 ∧ S.2 p = 46
        · rw [if_pos h]
          exact pf_bd cs (p + 1) neg fl g (by omega) (by omega) hc'
        · rw [if_neg h]
          exact ⟨Or.inl rfl, p0, p1⟩
      · rw [if_neg h46]
        have hb := num_k (S := S) (k := c - 48) (p := p) (by unfold fch at hf; omega) (by unfold fch at hf; omega) p1
        by_cases h : (num S (c - 48).toNat 0 p).2 = p
        · rw [if_pos h]
          exact ⟨Or.inl rfl, p0, p1⟩
        · rw [if_neg h]
          exact pf_bd cs _ 0 _ _ (by omega) (by omega) hc'
theorem fm_fch {l : Int} : ∀ c ∈ fm l, fch c := by
  intro c hc
  unfold fm at hc
  unfold fch
  split at hc
  · simp only [List.mem_cons, List.not_mem_nil, or_false] at hc; omega
  · split at hc
    · simp only [List.mem_cons, List.not_mem_nil, or_false] at hc; omega
    · split at hc
      · simp only [List.mem_cons, List.not_mem_nil, or_false] at hc; omega
      · split at hc
        · simp only [List.mem_cons, List.not_mem_nil, or_false] at hc; omega
        · cases hc
theorem fm_ne {l : Int} (h : fm l ≠ []) : l = 116 ∨ l = 109 ∨ l = 111 ∨ l = 112 := by
  by_cases h1 : l = 116
  · exact Or.inl h1
  · by_cases h2 : l = 109
    · exact Or.inr (Or.inl h2)
    · by_cases h3 : l = 111
      · exact Or.inr (Or.inr (Or.inl h3))
      · by_cases h4 : l = 112
        · exact Or.inr (Or.inr (Or.inr h4))
        · exact absurd (by unfold fm; rw [if_neg h1, if_neg h2, if_neg h3, if_neg h4]) h
theorem pcl_bd {S : TX} {p : Int} (p0 : 0 ≤ p) (p1 : p ≤ S.1) : ((pcl S p).1 = 0 ∨ (pcl S p).1 = 1) ∧ 0 ≤ (pcl S p).2.1 ∧ (pcl S p).2.1 ≤ S.1 := by
  unfold pcl
  by_cases h : p < S.1 ∧ fm (S.2 p) ≠ []
  · rw [if_pos h]
    exact pf_bd _ (p + 1) 0 0 _ (by omega) (by omega) fm_fch
  · rw [if_neg h]
    exact ⟨Or.inl rfl, p0, p1⟩
theorem pcl_ok {S : TX} {p : Int} (h : (pcl S p).1 = 1) : fm (S.2 p) ≠ [] := by
  unfold pcl at h
  by_cases h1 : p < S.1 ∧ fm (S.2 p) ≠ []
  · exact h1.2
  · rw [if_neg h1] at h
    cases h
theorem prs_ok {S : TX} : ∀ (k : Nat) (p : Int), 0 ≤ p → p ≤ S.1 → (∀ a ∈ (prs S k p).2, fm a.1 ≠ []) ∧ (prs S k p).2.length ≤ k
  | 0, _, _, _ => ⟨fun a h => (by cases h), Nat.le_refl 0⟩
  | k + 1, p, p0, p1 => by
    have hb := pcl_bd (S := S) p0 p1
    rw [prs]
    by_cases h0 : (pcl S p).1 = 0
    · rw [if_pos h0]
      exact ⟨fun a h => (by cases h), Nat.zero_le _⟩
    · have h1 : (pcl S p).1 = 1 := by omega
      rw [if_neg h0]
      by_cases h2 : (pcl S p).2.1 < S.1
      · rw [if_pos h2]
        by_cases h3 : k = 0 ∨ S.2 (pcl S p).2.1 ≠ 59
        · rw [if_pos h3]
          exact ⟨fun a h => (by cases h), Nat.zero_le _⟩
        · rw [if_neg h3]
          have ih := prs_ok (S := S) k ((pcl S p).2.1 + 1) (by omega) (by omega)
          refine ⟨fun a h => ?_, ?_⟩
          · rcases List.mem_cons.1 h with h | h
            · rw [h]; exact pcl_ok h1
            · exact ih.1 a h
          · show (List.length (_ :: _)) ≤ k + 1
            rw [List.length_cons]
            have := ih.2
            omega
      · rw [if_neg h2]
        refine ⟨fun a h => ?_, ?_⟩
        · rcases List.mem_cons.1 h with h | h
          · rw [h]; exact pcl_ok h1
          · cases h
        · show (List.length (_ :: [])) ≤ k + 1
          simp
def ClR (A B : Int → Int) : Int → List (Int × (Int → Int)) → Prop
  | _, [] => True
  | i, a :: l => (A (6 * i) = a.1 ∧ (∀ q, 0 ≤ q → q < 5 → q < cnt (fm a.1) → A (6 * i + 1 + q) = a.2 q) ∧ (5 < cnt (fm a.1) → B i = a.2 5)) ∧ ClR A B (i + 1) l
section MPA
variable {L d N : Nat} {z X Y q r v t c n k j e s o u x y i p ft : Int} {w : gW} {m m' : gM} {S : TX}
set_option maxHeartbeats 1000000 in
theorem m_read_lp [NeZero (z % 2)] (hS : TXm m S) (ho : TXo S) : ∀ (k : Nat) (i p : Int) (A B : Int → Int) (K : Option gV → gW → gM → Prop), i + k = 10 → 1 ≤ k → 0 ≤ i → 0 ≤ p → p ≤ S.1 → (∀ p' f' n A' B', (∀ j, j < 6 * i → A' j = A j) → (∀ j, j < i → B' j = B j) → ((prs S k p).1 = -1 → n = i + ((prs S k p).2.length : Int) ∧ ClR A' B' i (prs S k p).2) → f' = (prs S k p).1 → R (d + 4) M_X8_read 57 [(2, 213), (0, n), (3, 0), (3, 0)] [] (w0 L z X Y) (PS m p' f' A' B') K) → R (d + 4) M_X8_read 12 [(2, 213), (0, i), (3, 0), (3, 0)] [] (w0 L z X Y) (PS m p (-1) A B) K := by
  have o1 := ho.1
  have e1 := hS.1
  intro k
  induction k with
  | zero => intros; omega
  | succ k ih =>
    intro i p A B K hi hk1 hi0 p0 p1 hk
    rw [s_X8_read_12]
    simp (disch := first | assumption | omega | ((simp (disch := omega) only [gU_row, mis_row, gU_same, gU_i, mis_i, gCp_row]); first | assumption | omega)) only [e_X8_read, s_X8_read_0, s_X8_read_1, s_X8_read_2, s_X8_read_5, s_X8_read_6, s_X8_read_7, s_X8_read_10, s_X8_read_11, s_X8_read_13, s_X8_read_15, s_X8_read_16, s_X8_read_17, s_X8_read_20, s_X8_read_23, s_X8_read_24, s_X8_read_26, s_X8_read_29, s_X8_read_30, s_X8_read_32, s_X8_read_35, s_X8_read_38, s_X8_read_39, s_X8_read_42, s_X8_read_43, s_X8_read_46, s_X8_read_49, s_X8_read_50, s_X8_read_51, s_X8_read_54, s_X8_read_58, s_X8_read_59, s_X8_read_62, s_X8_read_63, s_X8_read_66, s_X8_read_69, s_X8_read_71, s_X8_read_72, s_X8_read_75, s_X8_read_76, s_X8_read_77, s_X8_read_78, s_X8_read_79, s_X8_read_80, s_X8_read_81, s_X8_read_82, s_X8_read_83, s_X8_read_86, s_X8_read_87, s_X8_read_88, s_X8_read_90, s_X8_read_91, s_X8_read_92, s_X8_read_95, s_X8_read_98, s_X8_read_99, s_X8_read_102, s_X8_read_103, s_X8_read_104, s_X8_read_105, s_X8_read_108, s_X8_read_111, s_X8_read_112, ↓reduceIte, Option.toList_some, Option.toList_none, List.cons_append, List.nil_append, List.singleton_append, List.append_nil, true_and, and_true, true_or, or_true, andT, iteT, iteF, itT, itF, zS_213, imul_ok]
    refine m_clause hS ho hi0 (by omega) p0 p1 (fun p' f' A' B' q1 q2 q3 q4 q5 q6 q7 => ?_)
    have hb := pcl_bd (S := S) p0 p1
    rw [prs] at hk
    by_cases h0 : (pcl S p).1 = 0
    · have q4 := q4 (by omega)
      rw [if_pos h0] at hk
      have nt : ¬ tB S 59 p' f' := fun h => by have := h.1; omega
      have fin := hk p' f' (i + 1) A' B' q1 q2 (fun h => by have h : (pcl S p).2.1 = -1 := h; omega) q4
      have f0 : 0 ≤ f' := by omega
      by_cases h5 : i = 9
      · have h6 : i + 1 = 10 := by omega
        rw [h6] at fin
        by_cases h7 : p' < S.1
        · simp (disch := first | assumption | omega | ((simp (disch := omega) only [gU_row, mis_row, gU_same, gU_i, mis_i, gCp_row]); first | assumption | omega)) only [e_X8_read, s_X8_read_0, s_X8_read_1, s_X8_read_2, s_X8_read_5, s_X8_read_6, s_X8_read_7, s_X8_read_10, s_X8_read_11, s_X8_read_13, s_X8_read_15, s_X8_read_16, s_X8_read_17, s_X8_read_20, s_X8_read_23, s_X8_read_24, s_X8_read_26, s_X8_read_29, s_X8_read_30, s_X8_read_32, s_X8_read_35, s_X8_read_38, s_X8_read_39, s_X8_read_42, s_X8_read_43, s_X8_read_46, s_X8_read_49, s_X8_read_50, s_X8_read_51, s_X8_read_54, s_X8_read_58, s_X8_read_59, s_X8_read_62, s_X8_read_63, s_X8_read_66, s_X8_read_69, s_X8_read_71, s_X8_read_72, s_X8_read_75, s_X8_read_76, s_X8_read_77, s_X8_read_78, s_X8_read_79, s_X8_read_80, s_X8_read_81, s_X8_read_82, s_X8_read_83, s_X8_read_86, s_X8_read_87, s_X8_read_88, s_X8_read_90, s_X8_read_91, s_X8_read_92, s_X8_read_95, s_X8_read_98, s_X8_read_99, s_X8_read_102, s_X8_read_103, s_X8_read_104, s_X8_read_105, s_X8_read_108, s_X8_read_111, s_X8_read_112, ↓reduceIte, Option.toList_some, Option.toList_none, List.cons_append, List.nil_append, List.singleton_append, List.append_nil, true_and, and_true, true_or, or_true, andT, iteT, iteF, itT, itF, zS_213, iadd_ok, h6, PS_35, PS_36, e1, m_fails_T f0]
          exact fin
        · simp (disch := first | assumption | omega | ((simp (disch := omega) only [gU_row, mis_row, gU_same, gU_i, mis_i, gCp_row]); first | assumption | omega)) only [e_X8_read, s_X8_read_0, s_X8_read_1, s_X8_read_2, s_X8_read_5, s_X8_read_6, s_X8_read_7, s_X8_read_10, s_X8_read_11, s_X8_read_13, s_X8_read_15, s_X8_read_16, s_X8_read_17, s_X8_read_20, s_X8_read_23, s_X8_read_24, s_X8_read_26, s_X8_read_29, s_X8_read_30, s_X8_read_32, s_X8_read_35, s_X8_read_38, s_X8_read_39, s_X8_read_42, s_X8_read_43, s_X8_read_46, s_X8_read_49, s_X8_read_50, s_X8_read_51, s_X8_read_54, s_X8_read_58, s_X8_read_59, s_X8_read_62, s_X8_read_63, s_X8_read_66, s_X8_read_69, s_X8_read_71, s_X8_read_72, s_X8_read_75, s_X8_read_76, s_X8_read_77, s_X8_read_78, s_X8_read_79, s_X8_read_80, s_X8_read_81, s_X8_read_82, s_X8_read_83, s_X8_read_86, s_X8_read_87, s_X8_read_88, s_X8_read_90, s_X8_read_91, s_X8_read_92, s_X8_read_95, s_X8_read_98, s_X8_read_99, s_X8_read_102, s_X8_read_103, s_X8_read_104, s_X8_read_105, s_X8_read_108, s_X8_read_111, s_X8_read_112, ↓reduceIte, Option.toList_some, Option.toList_none, List.cons_append, List.nil_append, List.singleton_append, List.append_nil, true_and, and_true, true_or, or_true, andT, iteT, iteF, itT, itF, zS_213, iadd_ok, h6, PS_35, PS_36, e1, m_fails_T f0]
          exact fin
      · by_cases h7 : p' < S.1
        · simp (disch := first | assumption | omega | ((simp (disch := omega) only [gU_row, mis_row, gU_same, gU_i, mis_i, gCp_row]); first | assumption | omega)) only [e_X8_read, s_X8_read_0, s_X8_read_1, s_X8_read_2, s_X8_read_5, s_X8_read_6, s_X8_read_7, s_X8_read_10, s_X8_read_11, s_X8_read_13, s_X8_read_15, s_X8_read_16, s_X8_read_17, s_X8_read_20, s_X8_read_23, s_X8_read_24, s_X8_read_26, s_X8_read_29, s_X8_read_30, s_X8_read_32, s_X8_read_35, s_X8_read_38, s_X8_read_39, s_X8_read_42, s_X8_read_43, s_X8_read_46, s_X8_read_49, s_X8_read_50, s_X8_read_51, s_X8_read_54, s_X8_read_58, s_X8_read_59, s_X8_read_62, s_X8_read_63, s_X8_read_66, s_X8_read_69, s_X8_read_71, s_X8_read_72, s_X8_read_75, s_X8_read_76, s_X8_read_77, s_X8_read_78, s_X8_read_79, s_X8_read_80, s_X8_read_81, s_X8_read_82, s_X8_read_83, s_X8_read_86, s_X8_read_87, s_X8_read_88, s_X8_read_90, s_X8_read_91, s_X8_read_92, s_X8_read_95, s_X8_read_98, s_X8_read_99, s_X8_read_102, s_X8_read_103, s_X8_read_104, s_X8_read_105, s_X8_read_108, s_X8_read_111, s_X8_read_112, ↓reduceIte, Option.toList_some, Option.toList_none, List.cons_append, List.nil_append, List.singleton_append, List.append_nil, true_and, and_true, true_or, or_true, andT, iteT, iteF, itT, itF, zS_213, iadd_ok, PS_35, PS_36, e1, m_fails_T f0, m_takes_F hS ho q5 q6 nt]
          exact fin
        · simp (disch := first | assumption | omega | ((simp (disch := omega) only [gU_row, mis_row, gU_same, gU_i, mis_i, gCp_row]); first | assumption | omega)) only [e_X8_read, s_X8_read_0, s_X8_read_1, s_X8_read_2, s_X8_read_5, s_X8_read_6, s_X8_read_7, s_X8_read_10, s_X8_read_11, s_X8_read_13, s_X8_read_15, s_X8_read_16, s_X8_read_17, s_X8_read_20, s_X8_read_23, s_X8_read_24, s_X8_read_26, s_X8_read_29, s_X8_read_30, s_X8_read_32, s_X8_read_35, s_X8_read_38, s_X8_read_39, s_X8_read_42, s_X8_read_43, s_X8_read_46, s_X8_read_49, s_X8_read_50, s_X8_read_51, s_X8_read_54, s_X8_read_58, s_X8_read_59, s_X8_read_62, s_X8_read_63, s_X8_read_66, s_X8_read_69, s_X8_read_71, s_X8_read_72, s_X8_read_75, s_X8_read_76, s_X8_read_77, s_X8_read_78, s_X8_read_79, s_X8_read_80, s_X8_read_81, s_X8_read_82, s_X8_read_83, s_X8_read_86, s_X8_read_87, s_X8_read_88, s_X8_read_90, s_X8_read_91, s_X8_read_92, s_X8_read_95, s_X8_read_98, s_X8_read_99, s_X8_read_102, s_X8_read_103, s_X8_read_104, s_X8_read_105, s_X8_read_108, s_X8_read_111, s_X8_read_112, ↓reduceIte, Option.toList_some, Option.toList_none, List.cons_append, List.nil_append, List.singleton_append, List.append_nil, true_and, and_true, true_or, or_true, andT, iteT, iteF, itT, itF, zS_213, iadd_ok, PS_35, PS_36, e1, m_fails_T f0, m_takes_F hS ho q5 q6 nt]
          exact fin
    · have h1 : (pcl S p).1 = 1 := by omega
      obtain ⟨y1, y2, y3, y4, y5⟩ := q3 h1
      rw [if_neg h0, ← y1] at hk
      subst y2
      by_cases h2 : p' < S.1
      · rw [if_pos h2] at hk
        by_cases h3 : k = 0
        · rw [if_pos (Or.inl h3)] at hk
          have h6 : i + 1 = 10 := by omega
          have fin := hk p' p' 10 A' B' q1 q2 (fun h => by have h : p' = -1 := h; omega) rfl
          simp (disch := first | assumption | omega | ((simp (disch := omega) only [gU_row, mis_row, gU_same, gU_i, mis_i, gCp_row]); first | assumption | omega)) only [e_X8_read, s_X8_read_0, s_X8_read_1, s_X8_read_2, s_X8_read_5, s_X8_read_6, s_X8_read_7, s_X8_read_10, s_X8_read_11, s_X8_read_13, s_X8_read_15, s_X8_read_16, s_X8_read_17, s_X8_read_20, s_X8_read_23, s_X8_read_24, s_X8_read_26, s_X8_read_29, s_X8_read_30, s_X8_read_32, s_X8_read_35, s_X8_read_38, s_X8_read_39, s_X8_read_42, s_X8_read_43, s_X8_read_46, s_X8_read_49, s_X8_read_50, s_X8_read_51, s_X8_read_54, s_X8_read_58, s_X8_read_59, s_X8_read_62, s_X8_read_63, s_X8_read_66, s_X8_read_69, s_X8_read_71, s_X8_read_72, s_X8_read_75, s_X8_read_76, s_X8_read_77, s_X8_read_78, s_X8_read_79, s_X8_read_80, s_X8_read_81, s_X8_read_82, s_X8_read_83, s_X8_read_86, s_X8_read_87, s_X8_read_88, s_X8_read_90, s_X8_read_91, s_X8_read_92, s_X8_read_95, s_X8_read_98, s_X8_read_99, s_X8_read_102, s_X8_read_103, s_X8_read_104, s_X8_read_105, s_X8_read_108, s_X8_read_111, s_X8_read_112, ↓reduceIte, Option.toList_some, Option.toList_none, List.cons_append, List.nil_append, List.singleton_append, List.append_nil, true_and, and_true, true_or, or_true, andT, iteT, iteF, itT, itF, zS_213, iadd_ok, h6, PS_35, PS_36, e1, m_fails_F]
          exact fin
        · by_cases h4 : S.2 p' = 59
          · rw [if_neg (by omega)] at hk
            have tt : tB S 59 p' (-1) := And.intro (by omega) ⟨h2, h4⟩
            simp (disch := first | assumption | omega | ((simp (disch := omega) only [gU_row, mis_row, gU_same, gU_i, mis_i, gCp_row]); first | assumption | omega)) only [e_X8_read, s_X8_read_0, s_X8_read_1, s_X8_read_2, s_X8_read_5, s_X8_read_6, s_X8_read_7, s_X8_read_10, s_X8_read_11, s_X8_read_13, s_X8_read_15, s_X8_read_16, s_X8_read_17, s_X8_read_20, s_X8_read_23, s_X8_read_24, s_X8_read_26, s_X8_read_29, s_X8_read_30, s_X8_read_32, s_X8_read_35, s_X8_read_38, s_X8_read_39, s_X8_read_42, s_X8_read_43, s_X8_read_46, s_X8_read_49, s_X8_read_50, s_X8_read_51, s_X8_read_54, s_X8_read_58, s_X8_read_59, s_X8_read_62, s_X8_read_63, s_X8_read_66, s_X8_read_69, s_X8_read_71, s_X8_read_72, s_X8_read_75, s_X8_read_76, s_X8_read_77, s_X8_read_78, s_X8_read_79, s_X8_read_80, s_X8_read_81, s_X8_read_82, s_X8_read_83, s_X8_read_86, s_X8_read_87, s_X8_read_88, s_X8_read_90, s_X8_read_91, s_X8_read_92, s_X8_read_95, s_X8_read_98, s_X8_read_99, s_X8_read_102, s_X8_read_103, s_X8_read_104, s_X8_read_105, s_X8_read_108, s_X8_read_111, s_X8_read_112, ↓reduceIte, Option.toList_some, Option.toList_none, List.cons_append, List.nil_append, List.singleton_append, List.append_nil, true_and, and_true, true_or, or_true, andT, iteT, iteF, itT, itF, zS_213, iadd_ok, PS_35, PS_36, e1, m_takes_T hS ho q5 tt]
            refine ih (i + 1) (p' + 1) A' B' K (by omega) (by omega) (by omega) (by omega) (by omega) (fun p2 f2 n2 A2 B2 u1 u2 u3 u4 => ?_)
            refine hk p2 f2 n2 A2 B2 (fun j hj => by rw [u1 j (by omega)]; exact q1 j hj) (fun j hj => by rw [u2 j (by omega)]; exact q2 j hj) (fun h => ?_) u4
            have u3 := u3 h
            refine ⟨?_, ⟨?_, fun q g0 g1 g2 => ?_, fun g => ?_⟩, u3.2⟩
            · rw [u3.1]; show _ = i + ((List.length (_ :: _) : Nat) : Int); rw [List.length_cons]; omega
            · rw [u1 _ (by omega)]; exact y3
            · rw [u1 _ (by omega)]; exact y4 q g0 g1 g2
            · rw [u2 _ (by omega)]; exact y5 g
          · rw [if_pos (Or.inr h4)] at hk
            have fin := hk p' p' (i + 1) A' B' q1 q2 (fun h => by have h : p' = -1 := h; omega) rfl
            have nt : ¬ tB S 59 p' (-1) := fun h => h4 h.2.2
            simp (disch := first | assumption | omega | ((simp (disch := omega) only [gU_row, mis_row, gU_same, gU_i, mis_i, gCp_row]); first | assumption | omega)) only [e_X8_read, s_X8_read_0, s_X8_read_1, s_X8_read_2, s_X8_read_5, s_X8_read_6, s_X8_read_7, s_X8_read_10, s_X8_read_11, s_X8_read_13, s_X8_read_15, s_X8_read_16, s_X8_read_17, s_X8_read_20, s_X8_read_23, s_X8_read_24, s_X8_read_26, s_X8_read_29, s_X8_read_30, s_X8_read_32, s_X8_read_35, s_X8_read_38, s_X8_read_39, s_X8_read_42, s_X8_read_43, s_X8_read_46, s_X8_read_49, s_X8_read_50, s_X8_read_51, s_X8_read_54, s_X8_read_58, s_X8_read_59, s_X8_read_62, s_X8_read_63, s_X8_read_66, s_X8_read_69, s_X8_read_71, s_X8_read_72, s_X8_read_75, s_X8_read_76, s_X8_read_77, s_X8_read_78, s_X8_read_79, s_X8_read_80, s_X8_read_81, s_X8_read_82, s_X8_read_83, s_X8_read_86, s_X8_read_87, s_X8_read_88, s_X8_read_90, s_X8_read_91, s_X8_read_92, s_X8_read_95, s_X8_read_98, s_X8_read_99, s_X8_read_102, s_X8_read_103, s_X8_read_104, s_X8_read_105, s_X8_read_108, s_X8_read_111, s_X8_read_112, ↓reduceIte, Option.toList_some, Option.toList_none, List.cons_append, List.nil_append, List.singleton_append, List.append_nil, true_and, and_true, true_or, or_true, andT, iteT, iteF, itT, itF, zS_213, iadd_ok, PS_35, PS_36, e1, m_fails_F, m_takes_F hS ho q5 q6 nt]
            exact fin
      · rw [if_neg h2] at hk
        have fin := hk p' (-1) (i + 1) A' B' q1 q2 (fun _ => ⟨rfl, ⟨y3, y4, y5⟩, trivial⟩) rfl
        have nt : ¬ tB S 59 p' (-1) := fun h => h2 h.2.1
        by_cases h5 : i = 9
        · have h6 : i + 1 = 10 := by omega
          rw [h6] at fin
          simp (disch := first | assumption | omega | ((simp (disch := omega) only [gU_row, mis_row, gU_same, gU_i, mis_i, gCp_row]); first | assumption | omega)) only [e_X8_read, s_X8_read_0, s_X8_read_1, s_X8_read_2, s_X8_read_5, s_X8_read_6, s_X8_read_7, s_X8_read_10, s_X8_read_11, s_X8_read_13, s_X8_read_15, s_X8_read_16, s_X8_read_17, s_X8_read_20, s_X8_read_23, s_X8_read_24, s_X8_read_26, s_X8_read_29, s_X8_read_30, s_X8_read_32, s_X8_read_35, s_X8_read_38, s_X8_read_39, s_X8_read_42, s_X8_read_43, s_X8_read_46, s_X8_read_49, s_X8_read_50, s_X8_read_51, s_X8_read_54, s_X8_read_58, s_X8_read_59, s_X8_read_62, s_X8_read_63, s_X8_read_66, s_X8_read_69, s_X8_read_71, s_X8_read_72, s_X8_read_75, s_X8_read_76, s_X8_read_77, s_X8_read_78, s_X8_read_79, s_X8_read_80, s_X8_read_81, s_X8_read_82, s_X8_read_83, s_X8_read_86, s_X8_read_87, s_X8_read_88, s_X8_read_90, s_X8_read_91, s_X8_read_92, s_X8_read_95, s_X8_read_98, s_X8_read_99, s_X8_read_102, s_X8_read_103, s_X8_read_104, s_X8_read_105, s_X8_read_108, s_X8_read_111, s_X8_read_112, ↓reduceIte, Option.toList_some, Option.toList_none, List.cons_append, List.nil_append, List.singleton_append, List.append_nil, true_and, and_true, true_or, or_true, andT, iteT, iteF, itT, itF, zS_213, iadd_ok, h6, PS_35, PS_36, e1]
          exact fin
        · simp (disch := first | assumption | omega | ((simp (disch := omega) only [gU_row, mis_row, gU_same, gU_i, mis_i, gCp_row]); first | assumption | omega)) only [e_X8_read, s_X8_read_0, s_X8_read_1, s_X8_read_2, s_X8_read_5, s_X8_read_6, s_X8_read_7, s_X8_read_10, s_X8_read_11, s_X8_read_13, s_X8_read_15, s_X8_read_16, s_X8_read_17, s_X8_read_20, s_X8_read_23, s_X8_read_24, s_X8_read_26, s_X8_read_29, s_X8_read_30, s_X8_read_32, s_X8_read_35, s_X8_read_38, s_X8_read_39, s_X8_read_42, s_X8_read_43, s_X8_read_46, s_X8_read_49, s_X8_read_50, s_X8_read_51, s_X8_read_54, s_X8_read_58, s_X8_read_59, s_X8_read_62, s_X8_read_63, s_X8_read_66, s_X8_read_69, s_X8_read_71, s_X8_read_72, s_X8_read_75, s_X8_read_76, s_X8_read_77, s_X8_read_78, s_X8_read_79, s_X8_read_80, s_X8_read_81, s_X8_read_82, s_X8_read_83, s_X8_read_86, s_X8_read_87, s_X8_read_88, s_X8_read_90, s_X8_read_91, s_X8_read_92, s_X8_read_95, s_X8_read_98, s_X8_read_99, s_X8_read_102, s_X8_read_103, s_X8_read_104, s_X8_read_105, s_X8_read_108, s_X8_read_111, s_X8_read_112, ↓reduceIte, Option.toList_some, Option.toList_none, List.cons_append, List.nil_append, List.singleton_append, List.append_nil, true_and, and_true, true_or, or_true, andT, iteT, iteF, itT, itF, zS_213, iadd_ok, PS_35, PS_36, e1, m_takes_F hS ho q5 q6 nt]
          exact fin
end MPA
