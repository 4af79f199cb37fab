/-! THE REFERENCE: an offset is used. -/
def PB0 (b : Bk) : Prop := (0 ≤ (b 2).1 ∧ (b 2).1 ≤ 6) ∧ WfO b ∧ (∀ g, 0 ≤ g → g < 5 → 0 ≤ pPer b g ∧ pPer b g ≤ 2147483647) ∧ (∀ g, 0 ≤ g → g < 5 → 0 ≤ pX0 b g ∧ pX0 b g ≤ 2147483647)
def UOk (b : Bk) (o t : Int) : Prop := pSu b o = 1 → okI ((b 2).2 o 2 * pPer b ((b 2).2 o 0)) ∧ okI ((b 2).2 o 3 * pPer b ((b 2).2 o 1)) ∧ okI (pPay b o) ∧ okI (t * pPay b o) ∧ okI (t * pPay b o * (b 2).2 o 5)
def FU (m m' : gM) (o : Int) : Prop := (∀ a, a ≠ 213 → a ≠ 228 → a ≠ 230 → a ≠ 231 → m' a = m a) ∧ (∀ k, k ≠ 5 → m' 213 k = m 213 k) ∧ (∀ k, k ≠ o → m' 230 k = m 230 k ∧ m' 231 k = m 231 k)
section MUS
variable {L d N : Nat} {z X Y q r v t c g j k e o u : Int} {w : gW} {m : gM} {K : Option gV → gW → gM → Prop} {b b' : Bk} {x y s : Int → Int} {F Q : Prop} {n : Nat}
theorem PB_0 (h : PB0 b) (hV : ∀ o, 0 ≤ o → o < (b 2).1 → OffOk b o) : PB b := ⟨h.1, h.2.1, hV, h.2.2.1, h.2.2.2⟩
theorem UOk_of (hP : PB b) (o0 : 0 ≤ o) (o1 : o < (b 2).1) (t0 : 0 ≤ t) (t1 : t ≤ pTm b (pX0 b) o) : UOk b o t := fun hs => by
  have h := hP.2.2.1 o o0 o1 hs
  have c := cr_bd hP o0 o1 t0 t1
  have e : pPy b o = pPay b o := if_pos hs
  rw [e] at c
  exact ⟨h.1, h.2.1, h.2.2.1, ⟨by omega, by omega⟩, ⟨by omega, by omega⟩⟩
theorem tm_bd0 (hP : PB0 b) (hx : Xok b x) (o0 : 0 ≤ o) (o1 : o < (b 2).1) : 0 ≤ pTm b x o ∧ pTm b x o ≤ pTm b (pX0 b) o ∧ pTm b (pX0 b) o ≤ 2147483647 := by
  have a := hP.2.1 o o0 o1
  have xa := hx _ a.1.1 a.1.2
  have xc := hx _ a.2.1.1 a.2.1.2
  have ba := hP.2.2.2 _ a.1.1 a.1.2
  unfold pTm
  by_cases hs : pSu b o = 1
  · rw [if_pos hs, if_pos hs]
    have d1 := div_bd (a := x ((b 2).2 o 0)) (b := 10 * (b 2).2 o 2) (by omega) xa.1
    have d2 := div_bd (a := x ((b 2).2 o 1)) (b := 10 * (b 2).2 o 3) (by omega) xc.1
    have d3 := div_bd (a := pX0 b ((b 2).2 o 0)) (b := 10 * (b 2).2 o 2) (by omega) ba.1
    have e1 := Int.ediv_le_ediv (c := 10 * (b 2).2 o 2) (by omega) xa.2
    have e2 := Int.ediv_le_ediv (c := 10 * (b 2).2 o 3) (by omega) xc.2
    omega
  · rw [if_neg hs, if_neg hs]
    omega
theorem tm_l0 (hP : PB0 b) (hx : Xok b x) (o0 : 0 ≤ o) (o1 : o < (b 2).1) : pTm b x o * (10 * (b 2).2 o 2) ≤ x ((b 2).2 o 0) ∧ pTm b x o * (10 * (b 2).2 o 3) ≤ x ((b 2).2 o 1) ∧ 0 ≤ pTm b x o * (10 * (b 2).2 o 2) ∧ 0 ≤ pTm b x o * (10 * (b 2).2 o 3) := by
  have a := hP.2.1 o o0 o1
  have tb := tm_bd0 hP hx o0 o1
  have xa := hx _ a.1.1 a.1.2
  have xc := hx _ a.2.1.1 a.2.1.2
  have n1 := Int.mul_nonneg (a := pTm b x o) (b := 10 * (b 2).2 o 2) tb.1 (by omega)
  have n2 := Int.mul_nonneg (a := pTm b x o) (b := 10 * (b 2).2 o 3) tb.1 (by omega)
  refine ⟨?_, ?_, n1, n2⟩
  · by_cases hs : pSu b o = 1
    · have e : pTm b x o ≤ x ((b 2).2 o 0) / (10 * (b 2).2 o 2) := by unfold pTm; rw [if_pos hs]; omega
      have l1 := Int.mul_le_mul_of_nonneg_right e (show 0 ≤ 10 * (b 2).2 o 2 by omega)
      have l2 := Int.ediv_mul_le (x ((b 2).2 o 0)) (show 10 * (b 2).2 o 2 ≠ 0 by omega)
      omega
    · have e : pTm b x o = 0 := if_neg hs
      rw [e]
      omega
  · by_cases hs : pSu b o = 1
    · have e : pTm b x o ≤ x ((b 2).2 o 1) / (10 * (b 2).2 o 3) := by unfold pTm; rw [if_pos hs]; omega
      have l1 := Int.mul_le_mul_of_nonneg_right e (show 0 ≤ 10 * (b 2).2 o 3 by omega)
      have l2 := Int.ediv_mul_le (x ((b 2).2 o 1)) (show 10 * (b 2).2 o 3 ≠ 0 by omega)
      omega
    · have e : pTm b x o = 0 := if_neg hs
      rw [e]
      omega
theorem tk_ok0 (hP : PB0 b) (hx : Xok b x) (o0 : 0 ≤ o) (o1 : o < (b 2).1) : Xok b (tk b x o (pTm b x o)) := by
  intro g g0 g1
  have a := hP.2.1 o o0 o1
  have xg := hx g g0 g1
  have l := tm_l0 hP hx o0 o1
  unfold tk
  by_cases h1 : g = (b 2).2 o 0
  · rw [if_pos h1]
    subst h1
    omega
  · rw [if_neg h1]
    by_cases h2 : g = (b 2).2 o 1
    · rw [if_pos h2]
      subst h2
      omega
    · rw [if_neg h2]
      exact xg
theorem su_01 : pSu b o = 0 ∨ pSu b o = 1 := by
  unfold pSu
  split
  · exact Or.inr rfl
  · exact Or.inl rfl
set_option maxHeartbeats 1000000 in
theorem m_mayUse [NeZero (z % 2)] (hb : BM (m 214) b) (hO : WfO b) (hd : ∀ g, 0 ≤ g → g < 5 → m 225 g = pDel b g) (o0 : 0 ≤ o) (o1 : o < (b 2).1) : C (d + 2) M_X8_mayUse [(2, 213), (0, o)] (w0 L z X Y) m K = K (some (0, pSu b o)) (w0 L z X Y) m := by
  have a := hO o o0 o1
  have e1 := hd _ a.1.1 a.1.2
  have e2 := hd _ a.2.1.1 a.2.1.2
  have hs : (b 2).2 o 4 = 0 ∨ (b 2).2 o 4 = 1 := by omega
  unfold pSu
  generalize pDel b ((b 2).2 o 0) = x at *
  generalize pDel b ((b 2).2 o 1) = y at *
  have h3 : x < 0 ∨ x = 0 ∨ 0 < x := by omega
  have h4 : y < 0 ∨ y = 0 ∨ 0 < y := by omega
  rcases hs with hs | hs <;> rcases h3 with h3 | h3 | h3 <;> rcases h4 with h4 | h4 | h4
  all_goals
    simp (disch := first | assumption | omega | (simp (disch := omega) only [gU_row, gU_same, gU_i, gCp_row] <;> omega)) only [e_X8_mayUse, s_X8_mayUse_0, s_X8_mayUse_1, s_X8_mayUse_4, s_X8_mayUse_5, s_X8_mayUse_6, s_X8_mayUse_7, s_X8_mayUse_10, s_X8_mayUse_11, s_X8_mayUse_14, s_X8_mayUse_15, s_X8_mayUse_18, s_X8_mayUse_19, s_X8_mayUse_20, s_X8_mayUse_21, s_X8_mayUse_24, s_X8_mayUse_25, s_X8_mayUse_28, s_X8_mayUse_29, s_X8_mayUse_30, s_X8_mayUse_31, s_X8_mayUse_32, s_X8_mayUse_33, s_X8_mayUse_36, s_X8_mayUse_37, s_X8_mayUse_40, s_X8_mayUse_41, s_X8_mayUse_44, s_X8_mayUse_45, s_X8_mayUse_48, s_X8_mayUse_49, s_X8_mayUse_52, s_X8_mayUse_53, s_X8_mayUse_56, s_X8_mayUse_57, s_X8_mayUse_60, s_X8_mayUse_61, ↓reduceIte, Option.toList_some, Option.toList_none, List.cons_append, List.nil_append, List.singleton_append, List.append_nil, true_and, and_true, true_or, or_true, andT, iteT, iteF, itT, itF, zS_213, zP_213_0, zP_213_1, zP_213_2, zP_213_3, zP_213_6, zP_213_7, zP_213_8, zP_213_9, zP_213_10, zP_213_11, zP_213_12, zP_213_13, zP_213_14, zP_213_15, zP_213_16, zP_213_17, zP_213_18, zP_213_19, zP_213_20, zP_213_21, zP_213_22, zP_213_23, zP_213_24, zP_213_32, zP_213_33, zP_213_34, zP_213_38, zP_213_39, zP_213_40, zP_213_41, zS_214, zS_215, zS_216, zS_217, zS_218, zS_219, zS_220, zS_221, zS_222, zS_223, zS_224, zS_225, zS_226, zS_227, zS_228, zS_229, zS_230, zS_231, zS_232, zS_233, zS_234, zS_235, zS_236, zS_237, zS_238, zS_239, zS_240, zS_241, zS_242, zS_243, m_offsetAt hb hO, e1, e2, gSgn_eq, hs, imul_ok, ne_eq, not_true_eq_false, not_false_eq_true]
    try first
      | rw [if_pos (by omega)]
      | rw [if_neg (by omega)]
      | rw [if_pos (by simp only [iff_true]; omega)]
      | rw [if_neg (by simp only [iff_true]; omega)]
set_option maxHeartbeats 1000000 in
theorem m_uses [NeZero (z % 2)] (hb : BM (m 214) b) (hP : PB0 b) (hd : ∀ g, 0 ≤ g → g < 5 → m 225 g = pDel b g) (hp : ∀ g, 0 ≤ g → g < 5 → m 224 g = pPer b g) (o0 : 0 ≤ o) (o1 : o < (b 2).1) (hJ : JM m F Q) (hX : Q → Xok b (m 228)) (hF : Q → F → UOk b o (pTm b (m 228) o)) (hk : ∀ m', FU m m' o → JM m' F (Q ∧ Ax (m' 228) (tk b (m 228) o (pTm b (m 228) o)) ∧ m' 230 o = pTm b (m 228) o ∧ m' 231 o = pCr b o (pTm b (m 228) o) ∧ UOk b o (pTm b (m 228) o)) → K none (w0 L z X Y) m') : C (d + 3) M_X8_uses [(2, 213), (0, o)] (w0 L z X Y) m K := by
  have hO := hP.2.1
  have hP1 := hP.1
  have a := hO o o0 o1
  have pA := hp _ a.1.1 a.1.2
  have pB := hp _ a.2.1.1 a.2.1.2
  have bA := hP.2.2.1 _ a.1.1 a.1.2
  have bB := hP.2.2.1 _ a.2.1.1 a.2.1.2
  have m1 := mul_bd (a := (b 2).2 o 2) (b := pPer b ((b 2).2 o 0)) 9 2147483647 (by omega) (by omega) (by omega) (by omega)
  have m2 := mul_bd (a := (b 2).2 o 3) (b := pPer b ((b 2).2 o 1)) 9 2147483647 (by omega) (by omega) (by omega) (by omega)
  simp (disch := first | assumption | omega | (simp (disch := omega) only [gU_row, gU_same, gU_i, gCp_row] <;> omega)) only [e_X8_uses, s_X8_uses_0, s_X8_uses_1, s_X8_uses_4, s_X8_uses_5, s_X8_uses_6, s_X8_uses_7, s_X8_uses_8, s_X8_uses_11, s_X8_uses_12, s_X8_uses_13, s_X8_uses_14, s_X8_uses_15, s_X8_uses_16, s_X8_uses_19, s_X8_uses_22, s_X8_uses_23, s_X8_uses_24, s_X8_uses_25, s_X8_uses_26, s_X8_uses_29, s_X8_uses_30, s_X8_uses_31, s_X8_uses_32, s_X8_uses_33, s_X8_uses_36, s_X8_uses_37, s_X8_uses_38, s_X8_uses_39, s_X8_uses_40, s_X8_uses_43, s_X8_uses_44, s_X8_uses_46, s_X8_uses_47, s_X8_uses_48, s_X8_uses_49, s_X8_uses_52, s_X8_uses_53, s_X8_uses_55, s_X8_uses_56, s_X8_uses_59, s_X8_uses_60, s_X8_uses_61, s_X8_uses_64, s_X8_uses_65, s_X8_uses_66, s_X8_uses_69, s_X8_uses_71, s_X8_uses_72, s_X8_uses_73, s_X8_uses_74, s_X8_uses_77, s_X8_uses_78, s_X8_uses_79, s_X8_uses_82, s_X8_uses_84, s_X8_uses_85, s_X8_uses_86, s_X8_uses_89, s_X8_uses_90, s_X8_uses_91, s_X8_uses_94, s_X8_uses_95, s_X8_uses_96, s_X8_uses_97, s_X8_uses_100, s_X8_uses_101, s_X8_uses_104, s_X8_uses_105, s_X8_uses_106, s_X8_uses_107, s_X8_uses_109, s_X8_uses_110, s_X8_uses_111, s_X8_uses_112, s_X8_uses_113, s_X8_uses_116, s_X8_uses_117, s_X8_uses_118, s_X8_uses_119, s_X8_uses_122, s_X8_uses_123, s_X8_uses_126, s_X8_uses_127, s_X8_uses_128, s_X8_uses_129, s_X8_uses_131, s_X8_uses_132, s_X8_uses_133, s_X8_uses_134, s_X8_uses_135, s_X8_uses_136, s_X8_uses_138, s_X8_uses_139, s_X8_uses_142, s_X8_uses_143, s_X8_uses_144, s_X8_uses_145, s_X8_uses_148, s_X8_uses_149, s_X8_uses_151, s_X8_uses_152, s_X8_uses_155, s_X8_uses_156, s_X8_uses_157, s_X8_uses_158, s_X8_uses_161, s_X8_uses_162, s_X8_uses_165, s_X8_uses_167, s_X8_uses_168, s_X8_uses_171, s_X8_uses_172, s_X8_uses_173, s_X8_uses_174, s_X8_uses_175, s_X8_uses_178, s_X8_uses_179, s_X8_uses_180, s_X8_uses_182, s_X8_uses_183, s_X8_uses_186, s_X8_uses_187, s_X8_uses_188, s_X8_uses_189, s_X8_uses_192, s_X8_uses_193, s_X8_uses_194, s_X8_uses_197, s_X8_uses_200, s_X8_uses_201, s_X8_uses_202, ↓reduceIte, Option.toList_some, Option.toList_none, List.cons_append, List.nil_append, List.singleton_append, List.append_nil, true_and, and_true, true_or, or_true, andT, iteT, iteF, itT, itF, zS_213, zP_213_0, zP_213_1, zP_213_2, zP_213_3, zP_213_6, zP_213_7, zP_213_8, zP_213_9, zP_213_10, zP_213_11, zP_213_12, zP_213_13, zP_213_14, zP_213_15, zP_213_16, zP_213_17, zP_213_18, zP_213_19, zP_213_20, zP_213_21, zP_213_22, zP_213_23, zP_213_24, zP_213_32, zP_213_33, zP_213_34, zP_213_38, zP_213_39, zP_213_40, zP_213_41, zS_214, zS_215, zS_216, zS_217, zS_218, zS_219, zS_220, zS_221, zS_222, zS_223, zS_224, zS_225, zS_226, zS_227, zS_228, zS_229, zS_230, zS_231, zS_232, zS_233, zS_234, zS_235, zS_236, zS_237, zS_238, zS_239, zS_240, zS_241, zS_242, zS_243]
  rw [m_mayUse (b := b) (by rw [gU_row (by omega), gU_row (by omega)]; exact hb) hO (fun g g0 g1 => by rw [gU_row (by omega), gU_row (by omega)]; exact hd g g0 g1) o0 o1]
  by_cases hs : pSu b o = 1
  · have l1 : lmul 10 ((b 2).2 o 2) = 10 * (b 2).2 o 2 := lmul_ok (by omega) (by omega)
    have l2 : lmul 10 ((b 2).2 o 3) = 10 * (b 2).2 o 3 := lmul_ok (by omega) (by omega)
    have l3 : lmul ((b 2).2 o 2) (pPer b ((b 2).2 o 0)) = (b 2).2 o 2 * pPer b ((b 2).2 o 0) := lmul_ok (by omega) (by omega)
    have l4 : lmul ((b 2).2 o 3) (pPer b ((b 2).2 o 1)) = (b 2).2 o 3 * pPer b ((b 2).2 o 1) := lmul_ok (by omega) (by omega)
    simp (disch := first | assumption | omega | ((simp (disch := omega) only [gU_row, mis_row, gU_same, gU_i, mis_i, gCp_row]); first | assumption | omega)) only [e_X8_uses, s_X8_uses_0, s_X8_uses_1, s_X8_uses_4, s_X8_uses_5, s_X8_uses_6, s_X8_uses_7, s_X8_uses_8, s_X8_uses_11, s_X8_uses_12, s_X8_uses_13, s_X8_uses_14, s_X8_uses_15, s_X8_uses_16, s_X8_uses_19, s_X8_uses_22, s_X8_uses_23, s_X8_uses_24, s_X8_uses_25, s_X8_uses_26, s_X8_uses_29, s_X8_uses_30, s_X8_uses_31, s_X8_uses_32, s_X8_uses_33, s_X8_uses_36, s_X8_uses_37, s_X8_uses_38, s_X8_uses_39, s_X8_uses_40, s_X8_uses_43, s_X8_uses_44, s_X8_uses_46, s_X8_uses_47, s_X8_uses_48, s_X8_uses_49, s_X8_uses_52, s_X8_uses_53, s_X8_uses_55, s_X8_uses_56, s_X8_uses_59, s_X8_uses_60, s_X8_uses_61, s_X8_uses_64, s_X8_uses_65, s_X8_uses_66, s_X8_uses_69, s_X8_uses_71, s_X8_uses_72, s_X8_uses_73, s_X8_uses_74, s_X8_uses_77, s_X8_uses_78, s_X8_uses_79, s_X8_uses_82, s_X8_uses_84, s_X8_uses_85, s_X8_uses_86, s_X8_uses_89, s_X8_uses_90, s_X8_uses_91, s_X8_uses_94, s_X8_uses_95, s_X8_uses_96, s_X8_uses_97, s_X8_uses_100, s_X8_uses_101, s_X8_uses_104, s_X8_uses_105, s_X8_uses_106, s_X8_uses_107, s_X8_uses_109, s_X8_uses_110, s_X8_uses_111, s_X8_uses_112, s_X8_uses_113, s_X8_uses_116, s_X8_uses_117, s_X8_uses_118, s_X8_uses_119, s_X8_uses_122, s_X8_uses_123, s_X8_uses_126, s_X8_uses_127, s_X8_uses_128, s_X8_uses_129, s_X8_uses_131, s_X8_uses_132, s_X8_uses_133, s_X8_uses_134, s_X8_uses_135, s_X8_uses_136, s_X8_uses_138, s_X8_uses_139, s_X8_uses_142, s_X8_uses_143, s_X8_uses_144, s_X8_uses_145, s_X8_uses_148, s_X8_uses_149, s_X8_uses_151, s_X8_uses_152, s_X8_uses_155, s_X8_uses_156, s_X8_uses_157, s_X8_uses_158, s_X8_uses_161, s_X8_uses_162, s_X8_uses_165, s_X8_uses_167, s_X8_uses_168, s_X8_uses_171, s_X8_uses_172, s_X8_uses_173, s_X8_uses_174, s_X8_uses_175, s_X8_uses_178, s_X8_uses_179, s_X8_uses_180, s_X8_uses_182, s_X8_uses_183, s_X8_uses_186, s_X8_uses_187, s_X8_uses_188, s_X8_uses_189, s_X8_uses_192, s_X8_uses_193, s_X8_uses_194, s_X8_uses_197, s_X8_uses_200, s_X8_uses_201, s_X8_uses_202, ↓reduceIte, Option.toList_some, Option.toList_none, List.cons_append, List.nil_append, List.singleton_append, List.append_nil, true_and, and_true, true_or, or_true, andT, iteT, iteF, itT, itF, zS_213, zP_213_0, zP_213_1, zP_213_2, zP_213_3, zP_213_6, zP_213_7, zP_213_8, zP_213_9, zP_213_10, zP_213_11, zP_213_12, zP_213_13, zP_213_14, zP_213_15, zP_213_16, zP_213_17, zP_213_18, zP_213_19, zP_213_20, zP_213_21, zP_213_22, zP_213_23, zP_213_24, zP_213_32, zP_213_33, zP_213_34, zP_213_38, zP_213_39, zP_213_40, zP_213_41, zS_214, zS_215, zS_216, zS_217, zS_218, zS_219, zS_220, zS_221, zS_222, zS_223, zS_224, zS_225, zS_226, zS_227, zS_228, zS_229, zS_230, zS_231, zS_232, zS_233, zS_234, zS_235, zS_236, zS_237, zS_238, zS_239, zS_240, zS_241, zS_242, zS_243, hs, m_offsetAt _ hO, gU_row, gU_i, gU_same, mis_row, l1, l2, l3, l4, pA, pB, m_is, ne_eq, not_true_eq_false, not_false_eq_true]
    generalize hkv : imin (ldiv (m 228 ((b 2).2 o 0)) (10 * (b 2).2 o 2)) (ldiv (m 228 ((b 2).2 o 1)) (10 * (b 2).2 o 3)) = kv at *
    have j4 := JM_gU (a := 228) (i := (b 2).2 o 1) (v := lsub (m 228 ((b 2).2 o 1)) (lmul (lmul 10 kv) ((b 2).2 o 3))) (JM_gU (a := 228) (i := (b 2).2 o 0) (v := lsub (m 228 ((b 2).2 o 0)) (lmul (lmul 10 kv) ((b 2).2 o 2))) (JM_gU (a := 230) (i := o) (v := kv) (JM_gU (a := 231) (i := o) (v := 0) (JM_gU (a := 230) (i := o) (v := 0) hJ (by omega)) (by omega)) (by omega)) (by omega)) (by omega)
    generalize hM4 : gU (gU (gU (gU (gU m 230 o 0) 231 o 0) 230 o kv) 228 ((b 2).2 o 0) (lsub (m 228 ((b 2).2 o 0)) (lmul (lmul 10 kv) ((b 2).2 o 2)))) 228 ((b 2).2 o 1) (lsub (m 228 ((b 2).2 o 1)) (lmul (lmul 10 kv) ((b 2).2 o 3))) = m4 at *
    have ek : Q → kv = pTm b (m 228) o := fun hQ => by
      have xa := hX hQ _ a.1.1 a.1.2
      have xc := hX hQ _ a.2.1.1 a.2.1.2
      have ya := hP.2.2.2 _ a.1.1 a.1.2
      have yc := hP.2.2.2 _ a.2.1.1 a.2.1.2
      rw [← hkv, ldiv_lit (by omega) (by omega) (by omega) (by omega), ldiv_lit (by omega) (by omega) (by omega) (by omega), td_nn xa.1, td_nn xc.1, imin_eq]
      unfold pTm
      rw [if_pos hs]
    have k1 := JM_is (x := (b 2).2 o 2 * pPer b ((b 2).2 o 0)) j4 (fun hQ hf => (hF hQ hf hs).1)
    have k2 := JM_is (x := (b 2).2 o 3 * pPer b ((b 2).2 o 1)) k1 (fun ⟨hQ, _⟩ hf => (hF hQ hf hs).2.1)
    generalize hx1 : (b 2).2 o 2 * pPer b ((b 2).2 o 0) = x1 at *
    generalize hx2 : (b 2).2 o 3 * pPer b ((b 2).2 o 1) = x2 at *
    have ey : pPay b o = x1 + x2 := by unfold pPay; rw [hx1, hx2]
    have e3 : misv m4 x1 = x1 → misv (mis m4 x1) x2 = x2 → ladd (misv m4 x1) (misv (mis m4 x1) x2) = pPay b o := fun h1 h2 => by
      rw [h1, h2, ladd_ok (by omega) (by omega), ey]
    generalize hx3 : ladd (misv m4 x1) (misv (mis m4 x1) x2) = x3 at *
    have k3 := JM_is (x := x3) k2 (fun ⟨⟨hQ, _, _, h1⟩, _, _, h2⟩ hf => by
      rw [e3 h1 h2]
      exact (hF hQ hf hs).2.2.1)
    have e4 : Q → okI x3 → x3 = pPay b o → misv (mis (mis m4 x1) x2) x3 = x3 → lmul kv (misv (mis (mis m4 x1) x2) x3) = pTm b (m 228) o * pPay b o := fun hQ ho h3 h => by
      have tb := tm_bd0 hP (hX hQ) o0 o1
      unfold okI at ho
      have bd := mul_bd (a := kv) (b := x3) 2147483647 2147483648 (by rw [ek hQ]; omega) (by rw [ek hQ]; omega) (by omega) (by omega)
      rw [h, lmul_ok (by omega) (by omega), h3, ek hQ]
    generalize hx4 : lmul kv (misv (mis (mis m4 x1) x2) x3) = x4 at *
    have k4 := JM_is (x := x4) k3 (fun ⟨⟨⟨hQ, _, _, h1⟩, _, _, h2⟩, ho, _, h3⟩ hf => by
      rw [e4 hQ ho (e3 h1 h2) h3]
      exact (hF hQ hf hs).2.2.2.1)
    have e5 : okI x4 → misv (mis (mis (mis m4 x1) x2) x3) x4 = x4 → lmul (misv (mis (mis (mis m4 x1) x2) x3) x4) ((b 2).2 o 5) = x4 * (b 2).2 o 5 := fun ho h => by
      unfold okI at ho
      have bd := mul_bd (a := x4) (b := (b 2).2 o 5) 2147483648 100 (by omega) (by omega) (by omega) (by omega)
      rw [h, lmul_ok (by omega) (by omega)]
    generalize hx5 : lmul (misv (mis (mis (mis m4 x1) x2) x3) x4) ((b 2).2 o 5) = x5 at *
    have k5 := JM_is (x := x5) k4 (fun ⟨⟨⟨⟨hQ, _, _, h1⟩, _, _, h2⟩, ho, _, h3⟩, ho4, _, h4⟩ hf => by
      rw [e5 ho4 h4, e4 hQ ho (e3 h1 h2) h3]
      exact (hF hQ hf hs).2.2.2.2)
    refine hk _ ⟨fun a h1 h2 h3 h4 => ?_, fun k hk => ?_, fun k hk => ?_⟩ (JM_gU (JM_mono k5 (fun ⟨⟨⟨⟨⟨hQ, o1', _, h1⟩, o2', _, h2⟩, ho3, _, h3⟩, ho4, _, h4⟩, ho5, _, h5⟩ => ?_)) (by omega))
    · rw [gU_row h4, mis_row h1, mis_row h1, mis_row h1, mis_row h1, mis_row h1, ← hM4, gU_row h2, gU_row h2, gU_row h3, gU_row h4, gU_row h3]
    · rw [gU_row (by omega), mis_i hk, mis_i hk, mis_i hk, mis_i hk, mis_i hk, ← hM4, gU_row (by omega), gU_row (by omega), gU_row (by omega), gU_row (by omega), gU_row (by omega)]
    · constructor
      · rw [gU_row (by omega), mis_row (by omega), mis_row (by omega), mis_row (by omega), mis_row (by omega), mis_row (by omega), ← hM4, gU_row (by omega), gU_row (by omega), gU_i hk, gU_row (by omega), gU_i hk]
      · rw [gU_i hk, mis_row (by omega), mis_row (by omega), mis_row (by omega), mis_row (by omega), mis_row (by omega), ← hM4, gU_row (by omega), gU_row (by omega), gU_row (by omega), gU_i hk, gU_row (by omega)]
    · have y3 := e3 h1 h2
      have y4 := e4 hQ ho3 y3 h3
      have y5 := e5 ho4 h4
      have tb := tm_bd0 hP (hX hQ) o0 o1
      have tl := tm_l0 hP (hX hQ) o0 o1
      have xa := hX hQ _ a.1.1 a.1.2
      have xc := hX hQ _ a.2.1.1 a.2.1.2
      have ya := hP.2.2.2 _ a.1.1 a.1.2
      have yc := hP.2.2.2 _ a.2.1.1 a.2.1.2
      have ekq := ek hQ
      refine ⟨hQ, fun g g0 g1 => ?_, ?_, ?_, fun _ => ?_⟩
      · rw [gU_row (by omega), mis_row (by omega), mis_row (by omega), mis_row (by omega), mis_row (by omega), mis_row (by omega), ← hM4, ekq]
        have c1 : lmul 10 (pTm b (m 228) o) = 10 * pTm b (m 228) o := lmul_ok (by omega) (by omega)
        have d1 := mul_bd (a := 10 * pTm b (m 228) o) (b := (b 2).2 o 2) 21474836470 9 (by omega) (by omega) (by omega) (by omega)
        have d2 := mul_bd (a := 10 * pTm b (m 228) o) (b := (b 2).2 o 3) 21474836470 9 (by omega) (by omega) (by omega) (by omega)
        have c2 : lmul (10 * pTm b (m 228) o) ((b 2).2 o 2) = pTm b (m 228) o * (10 * (b 2).2 o 2) := by
          rw [lmul_ok (by omega) (by omega), Int.mul_comm 10, Int.mul_assoc]
        have c3 : lmul (10 * pTm b (m 228) o) ((b 2).2 o 3) = pTm b (m 228) o * (10 * (b 2).2 o 3) := by
          rw [lmul_ok (by omega) (by omega), Int.mul_comm 10, Int.mul_assoc]
        rw [c1, c2, c3, lsub_ok (by omega) (by omega), lsub_ok (by omega) (by omega)]
        unfold tk
        by_cases h2' : g = (b 2).2 o 1
        · subst h2'
          rw [gU_same, if_neg (fun h => a.2.2.1 h.symm), if_pos rfl]
        · rw [gU_i h2', if_neg h2']
          by_cases h1' : g = (b 2).2 o 0
          · subst h1'
            rw [gU_same, if_pos rfl]
          · rw [gU_i h1', if_neg h1', gU_row (by omega), gU_row (by omega), gU_row (by omega)]
      · rw [gU_row (by omega), mis_row (by omega), mis_row (by omega), mis_row (by omega), mis_row (by omega), mis_row (by omega), ← hM4, gU_row (by omega), gU_row (by omega), gU_same, ekq]
      · have e : pPy b o = pPay b o := if_pos hs
        have ho5' := ho5
        unfold okI at ho5'
        rw [gU_same, h5, ldiv_lit (by omega) (by omega) (by omega) (by omega), y5, y4]
        unfold pCr
        rw [e]
      · rw [y3] at ho3
        rw [y5] at ho5
        rw [y4] at ho4 ho5
        exact ⟨by rw [hx1]; exact o1', by rw [hx2]; exact o2', ho3, ho4, ho5⟩
  · have hs0 : pSu b o = 0 := by
      rcases su_01 (b := b) (o := o) with h | h
      · exact h
      · exact absurd h hs
    simp (disch := first | assumption | omega | (simp (disch := omega) only [gU_row, gU_same, gU_i, gCp_row] <;> omega)) only [e_X8_uses, s_X8_uses_0, s_X8_uses_1, s_X8_uses_4, s_X8_uses_5, s_X8_uses_6, s_X8_uses_7, s_X8_uses_8, s_X8_uses_11, s_X8_uses_12, s_X8_uses_13, s_X8_uses_14, s_X8_uses_15, s_X8_uses_16, s_X8_uses_19, s_X8_uses_22, s_X8_uses_23, s_X8_uses_24, s_X8_uses_25, s_X8_uses_26, s_X8_uses_29, s_X8_uses_30, s_X8_uses_31, s_X8_uses_32, s_X8_uses_33, s_X8_uses_36, s_X8_uses_37, s_X8_uses_38, s_X8_uses_39, s_X8_uses_40, s_X8_uses_43, s_X8_uses_44, s_X8_uses_46, s_X8_uses_47, s_X8_uses_48, s_X8_uses_49, s_X8_uses_52, s_X8_uses_53, s_X8_uses_55, s_X8_uses_56, s_X8_uses_59, s_X8_uses_60, s_X8_uses_61, s_X8_uses_64, s_X8_uses_65, s_X8_uses_66, s_X8_uses_69, s_X8_uses_71, s_X8_uses_72, s_X8_uses_73, s_X8_uses_74, s_X8_uses_77, s_X8_uses_78, s_X8_uses_79, s_X8_uses_82, s_X8_uses_84, s_X8_uses_85, s_X8_uses_86, s_X8_uses_89, s_X8_uses_90, s_X8_uses_91, s_X8_uses_94, s_X8_uses_95, s_X8_uses_96, s_X8_uses_97, s_X8_uses_100, s_X8_uses_101, s_X8_uses_104, s_X8_uses_105, s_X8_uses_106, s_X8_uses_107, s_X8_uses_109, s_X8_uses_110, s_X8_uses_111, s_X8_uses_112, s_X8_uses_113, s_X8_uses_116, s_X8_uses_117, s_X8_uses_118, s_X8_uses_119, s_X8_uses_122, s_X8_uses_123, s_X8_uses_126, s_X8_uses_127, s_X8_uses_128, s_X8_uses_129, s_X8_uses_131, s_X8_uses_132, s_X8_uses_133, s_X8_uses_134, s_X8_uses_135, s_X8_uses_136, s_X8_uses_138, s_X8_uses_139, s_X8_uses_142, s_X8_uses_143, s_X8_uses_144, s_X8_uses_145, s_X8_uses_148, s_X8_uses_149, s_X8_uses_151, s_X8_uses_152, s_X8_uses_155, s_X8_uses_156, s_X8_uses_157, s_X8_uses_158, s_X8_uses_161, s_X8_uses_162, s_X8_uses_165, s_X8_uses_167, s_X8_uses_168, s_X8_uses_171, s_X8_uses_172, s_X8_uses_173, s_X8_uses_174, s_X8_uses_175, s_X8_uses_178, s_X8_uses_179, s_X8_uses_180, s_X8_uses_182, s_X8_uses_183, s_X8_uses_186, s_X8_uses_187, s_X8_uses_188, s_X8_uses_189, s_X8_uses_192, s_X8_uses_193, s_X8_uses_194, s_X8_uses_197, s_X8_uses_200, s_X8_uses_201, s_X8_uses_202, ↓reduceIte, Option.toList_some, Option.toList_none, List.cons_append, List.nil_append, List.singleton_append, List.append_nil, true_and, and_true, true_or, or_true, andT, iteT, iteF, itT, itF, zS_213, zP_213_0, zP_213_1, zP_213_2, zP_213_3, zP_213_6, zP_213_7, zP_213_8, zP_213_9, zP_213_10, zP_213_11, zP_213_12, zP_213_13, zP_213_14, zP_213_15, zP_213_16, zP_213_17, zP_213_18, zP_213_19, zP_213_20, zP_213_21, zP_213_22, zP_213_23, zP_213_24, zP_213_32, zP_213_33, zP_213_34, zP_213_38, zP_213_39, zP_213_40, zP_213_41, zS_214, zS_215, zS_216, zS_217, zS_218, zS_219, zS_220, zS_221, zS_222, zS_223, zS_224, zS_225, zS_226, zS_227, zS_228, zS_229, zS_230, zS_231, zS_232, zS_233, zS_234, zS_235, zS_236, zS_237, zS_238, zS_239, zS_240, zS_241, zS_242, zS_243, hs0, ne_eq, not_true_eq_false, not_false_eq_true]
    have e0 : pTm b (m 228) o = 0 := if_neg hs
    refine hk _ ⟨fun a _ _ h3 h4 => by rw [gU_row h4, gU_row h3], fun k hk => by rw [gU_row (by omega), gU_row (by omega)], fun k hk => ⟨by rw [gU_row (by omega), gU_i hk], by rw [gU_i hk, gU_row (by omega)]⟩⟩ (JM_gU (JM_gU (JM_mono hJ (fun hQ => ⟨hQ, fun g g0 g1 => ?_, ?_, ?_, fun h => absurd h hs⟩)) (by omega)) (by omega))
    · rw [gU_row (by omega), gU_row (by omega), e0]
      unfold tk
      repeat' split
      all_goals omega
    · rw [gU_row (by omega), gU_same, e0]
    · rw [gU_same, e0]
      unfold pCr
      simp [td]
end MUS
