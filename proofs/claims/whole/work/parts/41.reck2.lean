/-! A RECKONING: the legs. -/
def QL (m : gM) (r : Int) (b : Bk) (i k : Nat) : Prop := (∀ g j, 0 ≤ g → g < 5 → 0 ≤ j → j < (b 1).1 → m (r + 56 + g) j = if j < (k : Int) then pRow b g j (i + 1) else pRow b g j i) ∧ (∀ g e, 0 ≤ g → g < 5 → 0 ≤ e → e < 6 → m (r + 62 + g) e = pDB b g e i) ∧ (∀ g, 0 ≤ g → g < 5 → m (r + 70) g = pSh b g i) ∧ (∀ l j, 0 ≤ l → l < (i : Int) → 0 ≤ j → j < (b 1).1 → m (r + 30 + l) j = pLoss b l j) ∧ (∀ j, 0 ≤ j → j < (k : Int) → m (r + 30 + i) j = pLoss b i j) ∧ (∀ l, 0 ≤ l → l < (i : Int) → m (r + 54) l = pLD b l) ∧ (∀ l, 0 ≤ l → l < (i : Int) → LegOk b l) ∧ (0 < (b 1).1 → okI (pLots b i)) ∧ (∀ j, 0 ≤ j → j < (k : Int) → okI (pB b i j) ∧ okI (pC b i j))
theorem pRow_bd {b : Bk} {g j : Int} : ∀ n : Nat, (∀ l, 0 ≤ l → l < (n : Int) → okI (pC b l j)) → -(21474837 * (n : Int)) ≤ pRow b g j n ∧ pRow b g j n ≤ 21474837 * n := by
  intro n
  induction n with
  | zero => intro _; exact ⟨by simp [pRow, it], by simp [pRow, it]⟩
  | succ n ih =>
    intro h
    have a := ih (fun l h0 h1 => h l h0 (by omega))
    have c := h n (by omega) (by omega)
    have d : -21474837 ≤ pLoss b n j ∧ pLoss b n j ≤ 21474837 := by
      unfold pLoss td
      unfold okI at c
      split <;> omega
    rw [pRow_s]
    split <;> omega
section RECK2
variable {L d N : Nat} {z X Y q r x y v t c n g j k e s : Int} {w : gW} {m : gM} {K : Option gV → gW → gM → Prop} {b b' : Bk} {xs : Int → Int} {F : Prop}
theorem pLess_bd (hg : WfG b) (hm : WfM b) (hl : WfL b) (h0 : 0 ≤ x) (h1 : x < (b 3).1) : -2400 ≤ pLess b x j ∧ pLess b x j ≤ 2400 := by
  have a := hl x h0 h1
  have bg := hg _ a.1.1 a.1.2
  have w1 := pWorth_bd (p := (b 0).2 ((b 3).2 x 0) 0) (u := (b 0).2 ((b 3).2 x 0) 1) hl h0 h1 (by omega) (by omega) (by omega) (by omega)
  have p1 := pPrice_bd (j := j) hg hm a.1.1 a.1.2
  have u1 := pUnr_bd (j := j) hg hm a.1.1 a.1.2
  have w2 := pWorth_bd (p := pPrice b ((b 3).2 x 0) j) (u := pUnr b ((b 3).2 x 0) j) hl h0 h1 (by omega) (by omega) (by omega) (by omega)
  unfold pLess
  omega
set_option maxHeartbeats 1000000 in
theorem c_addLosses {i : Nat} (hr : RB r) (hb : BK m (r + 1) b) (hg : WfG b) (hm : WfM b) (hl : WfL b) (hQ : WfQ b) (hi : (i : Int) < (b 3).1) (hA : QA m r b) (hJ : J m r F (QB m r b i)) (hF : F → LegOk b i) (hk : ∀ m', Fr (r + 30) (r + 86) m m' → QA m' r b → J m' r F (QL m' r b i (b 1).1.toNat) → K none (w0 L z X Y) m') : C (d + 3) M_X3_addLosses [(2, r), (0, i)] (w0 L z X Y) m K := by
  have hq := BB_r hr
  have hr0 : 1 ≤ r := by rcases hr with h | h <;> omega
  have hs := BK_s1 hb
  have hs3 := BK_s3 hb
  have b0 := BK_b0 hb
  have a := hl i (by omega) hi
  have bg := hg _ a.1.1 a.1.2
  have aq := hQ i (by omega) hi
  by_cases h0 : (b 1).1 = 0
  · simp (disch := first | assumption | omega | (simp (disch := omega) only [gU_row, gU_same, gU_i, gCp_row] <;> omega)) only [e_X3_addLosses, s_X3_addLosses_0, s_X3_addLosses_1, s_X3_addLosses_4, s_X3_addLosses_7, s_X3_addLosses_10, s_X3_addLosses_13, s_X3_addLosses_14, s_X3_addLosses_15, s_X3_addLosses_18, s_X3_addLosses_21, s_X3_addLosses_22, s_X3_addLosses_23, s_X3_addLosses_26, s_X3_addLosses_27, s_X3_addLosses_28, s_X3_addLosses_31, s_X3_addLosses_32, s_X3_addLosses_33, s_X3_addLosses_36, s_X3_addLosses_39, s_X3_addLosses_40, s_X3_addLosses_41, s_X3_addLosses_44, s_X3_addLosses_45, s_X3_addLosses_48, s_X3_addLosses_51, s_X3_addLosses_52, s_X3_addLosses_53, s_X3_addLosses_56, s_X3_addLosses_59, s_X3_addLosses_60, s_X3_addLosses_61, s_X3_addLosses_64, s_X3_addLosses_65, s_X3_addLosses_68, s_X3_addLosses_71, s_X3_addLosses_72, s_X3_addLosses_73, s_X3_addLosses_76, s_X3_addLosses_77, s_X3_addLosses_78, s_X3_addLosses_81, s_X3_addLosses_84, s_X3_addLosses_85, s_X3_addLosses_86, s_X3_addLosses_89, s_X3_addLosses_90, s_X3_addLosses_91, s_X3_addLosses_94, s_X3_addLosses_96, s_X3_addLosses_97, s_X3_addLosses_101, s_X3_addLosses_102, s_X3_addLosses_105, s_X3_addLosses_108, s_X3_addLosses_111, s_X3_addLosses_114, s_X3_addLosses_115, s_X3_addLosses_116, s_X3_addLosses_119, s_X3_addLosses_120, s_X3_addLosses_121, s_X3_addLosses_124, s_X3_addLosses_125, s_X3_addLosses_126, s_X3_addLosses_128, s_X3_addLosses_129, s_X3_addLosses_130, s_X3_addLosses_133, s_X3_addLosses_134, s_X3_addLosses_135, s_X3_addLosses_137, s_X3_addLosses_138, s_X3_addLosses_141, s_X3_addLosses_142, s_X3_addLosses_144, s_X3_addLosses_145, s_X3_addLosses_148, s_X3_addLosses_149, s_X3_addLosses_152, s_X3_addLosses_154, s_X3_addLosses_156, s_X3_addLosses_157, s_X3_addLosses_158, s_X3_addLosses_161, s_X3_addLosses_162, s_X3_addLosses_165, s_X3_addLosses_168, s_X3_addLosses_170, s_X3_addLosses_171, s_X3_addLosses_174, s_X3_addLosses_175, s_X3_addLosses_176, s_X3_addLosses_179, s_X3_addLosses_182, s_X3_addLosses_183, s_X3_addLosses_185, s_X3_addLosses_186, s_X3_addLosses_189, s_X3_addLosses_190, s_X3_addLosses_191, s_X3_addLosses_193, s_X3_addLosses_195, s_X3_addLosses_196, s_X3_addLosses_197, s_X3_addLosses_198, s_X3_addLosses_201, s_X3_addLosses_202, s_X3_addLosses_203, s_X3_addLosses_205, s_X3_addLosses_206, s_X3_addLosses_207, s_X3_addLosses_209, s_X3_addLosses_210, s_X3_addLosses_211, s_X3_addLosses_214, s_X3_addLosses_217, ↓reduceIte, Option.toList_some, Option.toList_none, List.cons_append, List.nil_append, List.singleton_append, List.append_nil, true_and, and_true, true_or, or_true, andT, iteT, iteF, itT, itF, zS_r0 hr, zP_r0_0 hr, zP_r0_1 hr, zP_r0_2 hr, zP_r0_3 hr, zP_r0_4 hr, zP_r0_5 hr, zP_r0_6 hr, zP_r0_7 hr, zP_r0_8 hr, zP_r0_9 hr, zP_r0_10 hr, zP_r0_11 hr, zP_r0_12 hr, zP_r0_13 hr, zP_r0_14 hr, zP_r0_15 hr, zS_r14 hr, zP_r14_1 hr, zP_r14_2 hr, zP_r14_3 hr, zP_r14_4 hr, zP_r14_6 hr, zP_r14_7 hr, zP_r14_8 hr, zP_r14_9 hr, zP_r14_10 hr, zP_r14_11 hr, zP_r14_12 hr, zP_r14_13 hr, zP_r14_14 hr, zP_r14_15 hr, zS_r15 hr, zS_r16 hr, zS_r17 hr, zS_r18 hr, zS_r19 hr, zS_r20 hr, zS_r21 hr, zS_r22 hr, zS_r23 hr, zS_r24 hr, zS_r25 hr, zS_r26 hr, zS_r27 hr, zS_r28 hr, zS_r29 hr, zS_r54 hr, zS_r55 hr, zS_r61 hr, zS_r67 hr, zS_r68 hr, zS_r69 hr, zS_r70 hr, zS_r71 hr, zS_r72 hr, zS_r73 hr, zS_r79 hr, zS_r85 hr, zS_r86 hr, zS_b0 hq, zP_b0_0 hq, zP_b0_1 hq, zP_b0_2 hq, zP_b0_3 hq, zP_b0_4 hq, zP_b0_5 hq, zS_b1 hq, zS_b3 hq, zS_b5 hq, zS_b7 hq, zS_b9 hq, zS_b11 hq, bk_n1 hb, h0, ne_eq, not_true_eq_false]
    refine hk _ Fr_refl hA (J_mono hJ (fun hB => ?_))
    obtain ⟨q1, q2, q3, q4, q5, q6⟩ := hB
    refine ⟨fun g j g0 g1 j0 j1 => by omega, q2, q3, q4, fun j j0 j1 => by omega, q5, q6, fun h => by omega, fun j j0 j1 => by omega⟩
  · have w1 := pWorth_bd (p := (b 0).2 ((b 3).2 i 0) 0) (u := (b 0).2 ((b 3).2 i 0) 1) hl (show (0 : Int) ≤ i by omega) hi (by omega) (by omega) (by omega) (by omega)
    have ml := mul_bd (a := (b 3).2 i 4) (b := (b 0).2 ((b 3).2 i 0) 2) 2147483648 1000000 (by omega) (by omega) (by omega) (by omega)
    simp (disch := first | assumption | omega | (simp (disch := omega) only [gU_row, gU_same, gU_i, gCp_row] <;> omega)) only [e_X3_addLosses, s_X3_addLosses_0, s_X3_addLosses_1, s_X3_addLosses_4, s_X3_addLosses_7, s_X3_addLosses_10, s_X3_addLosses_13, s_X3_addLosses_14, s_X3_addLosses_15, s_X3_addLosses_18, s_X3_addLosses_21, s_X3_addLosses_22, s_X3_addLosses_23, s_X3_addLosses_26, s_X3_addLosses_27, s_X3_addLosses_28, s_X3_addLosses_31, s_X3_addLosses_32, s_X3_addLosses_33, s_X3_addLosses_36, s_X3_addLosses_39, s_X3_addLosses_40, s_X3_addLosses_41, s_X3_addLosses_44, s_X3_addLosses_45, s_X3_addLosses_48, s_X3_addLosses_51, s_X3_addLosses_52, s_X3_addLosses_53, s_X3_addLosses_56, s_X3_addLosses_59, s_X3_addLosses_60, s_X3_addLosses_61, s_X3_addLosses_64, s_X3_addLosses_65, s_X3_addLosses_68, s_X3_addLosses_71, s_X3_addLosses_72, s_X3_addLosses_73, s_X3_addLosses_76, s_X3_addLosses_77, s_X3_addLosses_78, s_X3_addLosses_81, s_X3_addLosses_84, s_X3_addLosses_85, s_X3_addLosses_86, s_X3_addLosses_89, s_X3_addLosses_90, s_X3_addLosses_91, s_X3_addLosses_94, s_X3_addLosses_96, s_X3_addLosses_97, s_X3_addLosses_101, s_X3_addLosses_102, s_X3_addLosses_105, s_X3_addLosses_108, s_X3_addLosses_111, s_X3_addLosses_114, s_X3_addLosses_115, s_X3_addLosses_116, s_X3_addLosses_119, s_X3_addLosses_120, s_X3_addLosses_121, s_X3_addLosses_124, s_X3_addLosses_125, s_X3_addLosses_126, s_X3_addLosses_128, s_X3_addLosses_129, s_X3_addLosses_130, s_X3_addLosses_133, s_X3_addLosses_134, s_X3_addLosses_135, s_X3_addLosses_137, s_X3_addLosses_138, s_X3_addLosses_141, s_X3_addLosses_142, s_X3_addLosses_144, s_X3_addLosses_145, s_X3_addLosses_148, s_X3_addLosses_149, s_X3_addLosses_152, s_X3_addLosses_154, s_X3_addLosses_156, s_X3_addLosses_157, s_X3_addLosses_158, s_X3_addLosses_161, s_X3_addLosses_162, s_X3_addLosses_165, s_X3_addLosses_168, s_X3_addLosses_170, s_X3_addLosses_171, s_X3_addLosses_174, s_X3_addLosses_175, s_X3_addLosses_176, s_X3_addLosses_179, s_X3_addLosses_182, s_X3_addLosses_183, s_X3_addLosses_185, s_X3_addLosses_186, s_X3_addLosses_189, s_X3_addLosses_190, s_X3_addLosses_191, s_X3_addLosses_193, s_X3_addLosses_195, s_X3_addLosses_196, s_X3_addLosses_197, s_X3_addLosses_198, s_X3_addLosses_201, s_X3_addLosses_202, s_X3_addLosses_203, s_X3_addLosses_205, s_X3_addLosses_206, s_X3_addLosses_207, s_X3_addLosses_209, s_X3_addLosses_210, s_X3_addLosses_211, s_X3_addLosses_214, s_X3_addLosses_217, ↓reduceIte, Option.toList_some, Option.toList_none, List.cons_append, List.nil_append, List.singleton_append, List.append_nil, true_and, and_true, true_or, or_true, andT, iteT, iteF, itT, itF, zS_r0 hr, zP_r0_0 hr, zP_r0_1 hr, zP_r0_2 hr, zP_r0_3 hr, zP_r0_4 hr, zP_r0_5 hr, zP_r0_6 hr, zP_r0_7 hr, zP_r0_8 hr, zP_r0_9 hr, zP_r0_10 hr, zP_r0_11 hr, zP_r0_12 hr, zP_r0_13 hr, zP_r0_14 hr, zP_r0_15 hr, zS_r14 hr, zP_r14_1 hr, zP_r14_2 hr, zP_r14_3 hr, zP_r14_4 hr, zP_r14_6 hr, zP_r14_7 hr, zP_r14_8 hr, zP_r14_9 hr, zP_r14_10 hr, zP_r14_11 hr, zP_r14_12 hr, zP_r14_13 hr, zP_r14_14 hr, zP_r14_15 hr, zS_r15 hr, zS_r16 hr, zS_r17 hr, zS_r18 hr, zS_r19 hr, zS_r20 hr, zS_r21 hr, zS_r22 hr, zS_r23 hr, zS_r24 hr, zS_r25 hr, zS_r26 hr, zS_r27 hr, zS_r28 hr, zS_r29 hr, zS_r54 hr, zS_r55 hr, zS_r61 hr, zS_r67 hr, zS_r68 hr, zS_r69 hr, zS_r70 hr, zS_r71 hr, zS_r72 hr, zS_r73 hr, zS_r79 hr, zS_r85 hr, zS_r86 hr, zS_b0 hq, zP_b0_0 hq, zP_b0_1 hq, zP_b0_2 hq, zP_b0_3 hq, zP_b0_4 hq, zP_b0_5 hq, zS_b1 hq, zS_b3 hq, zS_b5 hq, zS_b7 hq, zS_b9 hq, zS_b11 hq, at_0 hq hb, at_1 hq hb, at_2 hq hb, at_3 hq hb, at_4 hq hb, at_5 hq hb, bk_n1 hb, c_worthOf hq hb hl, lmul_ok, c_fit hr, ne_eq, not_false_eq_true]
    have hj1 := J_fit (x := pLots b i) hJ (fun _ hf => (hF hf).1 (by omega))
    refine R_for0 (b 1).1.toNat (fun k ls m' => (∃ u v, ls = [(2, r), (0, (i : Int)), (0, (b 3).2 i 0), (0, pWorth b i ((b 0).2 ((b 3).2 i 0) 0) ((b 0).2 ((b 3).2 i 0) 1)), (1, fitv (pLots b i)), (3, 0), (0, (k : Int)), u, v, (3, 0)]) ∧ Fr (r + 30) (r + 86) m m' ∧ QA m' r b ∧ J m' r F (QL m' r b i k)) ⟨⟨_, _, rfl⟩, fun a ha => fitm_row (by omega), ?_, ?_⟩ ?_ ?_
    · intro g j g0 g1 j0 j1
      have := hA g j g0 g1 j0 j1
      rw [fitm_row (by omega), fitm_row (by omega)]
      exact this
    · refine J_mono hj1 (fun ⟨hB, ho, he⟩ => ?_)
      rw [show (b 3).2 i 4 * (b 0).2 ((b 3).2 i 0) 2 = pLots b i from rfl, he]
      obtain ⟨q1, q2, q3, q4, q5, q6⟩ := hB
      refine ⟨fun g j g0 g1 j0 j1 => ?_, q2, q3, q4, fun j j0 j1 => absurd j1 (by omega), q5, q6, fun _ => ho, fun j j0 j1 => absurd j1 (by omega)⟩
      rw [if_neg (by omega)]
      exact q1 g j g0 g1 j0 j1
    · rintro k ls m1 hk' ⟨⟨u, v, rfl⟩, f1, f2, f3⟩ hn
      have hb' := BK_fr hb f1 (by omega)
      have ep := f2 _ k a.1.1 a.1.2 (by omega) (by omega)
      have p1 := pPrice_bd (j := k) hg hm a.1.1 a.1.2
      have u1 := pUnr_bd (j := k) hg hm a.1.1 a.1.2
      have w2 := pWorth_bd (p := pPrice b ((b 3).2 i 0) k) (u := pUnr b ((b 3).2 i 0) k) hl (show (0 : Int) ≤ i by omega) hi (by omega) (by omega) (by omega) (by omega)
      have le := pLess_bd (x := i) (j := k) hg hm hl (by omega) hi
      have mk := hm k (by omega) (by omega)
      rw [s_X3_addLosses_99]
      simp (disch := first | assumption | omega | (simp (disch := omega) only [gU_row, gU_same, gU_i, gCp_row] <;> omega)) only [e_X3_addLosses, s_X3_addLosses_0, s_X3_addLosses_1, s_X3_addLosses_4, s_X3_addLosses_7, s_X3_addLosses_10, s_X3_addLosses_13, s_X3_addLosses_14, s_X3_addLosses_15, s_X3_addLosses_18, s_X3_addLosses_21, s_X3_addLosses_22, s_X3_addLosses_23, s_X3_addLosses_26, s_X3_addLosses_27, s_X3_addLosses_28, s_X3_addLosses_31, s_X3_addLosses_32, s_X3_addLosses_33, s_X3_addLosses_36, s_X3_addLosses_39, s_X3_addLosses_40, s_X3_addLosses_41, s_X3_addLosses_44, s_X3_addLosses_45, s_X3_addLosses_48, s_X3_addLosses_51, s_X3_addLosses_52, s_X3_addLosses_53, s_X3_addLosses_56, s_X3_addLosses_59, s_X3_addLosses_60, s_X3_addLosses_61, s_X3_addLosses_64, s_X3_addLosses_65, s_X3_addLosses_68, s_X3_addLosses_71, s_X3_addLosses_72, s_X3_addLosses_73, s_X3_addLosses_76, s_X3_addLosses_77, s_X3_addLosses_78, s_X3_addLosses_81, s_X3_addLosses_84, s_X3_addLosses_85, s_X3_addLosses_86, s_X3_addLosses_89, s_X3_addLosses_90, s_X3_addLosses_91, s_X3_addLosses_94, s_X3_addLosses_96, s_X3_addLosses_97, s_X3_addLosses_101, s_X3_addLosses_102, s_X3_addLosses_105, s_X3_addLosses_108, s_X3_addLosses_111, s_X3_addLosses_114, s_X3_addLosses_115, s_X3_addLosses_116, s_X3_addLosses_119, s_X3_addLosses_120, s_X3_addLosses_121, s_X3_addLosses_124, s_X3_addLosses_125, s_X3_addLosses_126, s_X3_addLosses_128, s_X3_addLosses_129, s_X3_addLosses_130, s_X3_addLosses_133, s_X3_addLosses_134, s_X3_addLosses_135, s_X3_addLosses_137, s_X3_addLosses_138, s_X3_addLosses_141, s_X3_addLosses_142, s_X3_addLosses_144, s_X3_addLosses_145, s_X3_addLosses_148, s_X3_addLosses_149, s_X3_addLosses_152, s_X3_addLosses_154, s_X3_addLosses_156, s_X3_addLosses_157, s_X3_addLosses_158, s_X3_addLosses_161, s_X3_addLosses_162, s_X3_addLosses_165, s_X3_addLosses_168, s_X3_addLosses_170, s_X3_addLosses_171, s_X3_addLosses_174, s_X3_addLosses_175, s_X3_addLosses_176, s_X3_addLosses_179, s_X3_addLosses_182, s_X3_addLosses_183, s_X3_addLosses_185, s_X3_addLosses_186, s_X3_addLosses_189, s_X3_addLosses_190, s_X3_addLosses_191, s_X3_addLosses_193, s_X3_addLosses_195, s_X3_addLosses_196, s_X3_addLosses_197, s_X3_addLosses_198, s_X3_addLosses_201, s_X3_addLosses_202, s_X3_addLosses_203, s_X3_addLosses_205, s_X3_addLosses_206, s_X3_addLosses_207, s_X3_addLosses_209, s_X3_addLosses_210, s_X3_addLosses_211, s_X3_addLosses_214, s_X3_addLosses_217, ↓reduceIte, Option.toList_some, Option.toList_none, List.cons_append, List.nil_append, List.singleton_append, List.append_nil, true_and, and_true, true_or, or_true, andT, iteT, iteF, itT, itF, zS_r0 hr, zP_r0_0 hr, zP_r0_1 hr, zP_r0_2 hr, zP_r0_3 hr, zP_r0_4 hr, zP_r0_5 hr, zP_r0_6 hr, zP_r0_7 hr, zP_r0_8 hr, zP_r0_9 hr, zP_r0_10 hr, zP_r0_11 hr, zP_r0_12 hr, zP_r0_13 hr, zP_r0_14 hr, zP_r0_15 hr, zS_r14 hr, zP_r14_1 hr, zP_r14_2 hr, zP_r14_3 hr, zP_r14_4 hr, zP_r14_6 hr, zP_r14_7 hr, zP_r14_8 hr, zP_r14_9 hr, zP_r14_10 hr, zP_r14_11 hr, zP_r14_12 hr, zP_r14_13 hr, zP_r14_14 hr, zP_r14_15 hr, zS_r15 hr, zS_r16 hr, zS_r17 hr, zS_r18 hr, zS_r19 hr, zS_r20 hr, zS_r21 hr, zS_r22 hr, zS_r23 hr, zS_r24 hr, zS_r25 hr, zS_r26 hr, zS_r27 hr, zS_r28 hr, zS_r29 hr, zS_r54 hr, zS_r55 hr, zS_r61 hr, zS_r67 hr, zS_r68 hr, zS_r69 hr, zS_r70 hr, zS_r71 hr, zS_r72 hr, zS_r73 hr, zS_r79 hr, zS_r85 hr, zS_r86 hr, zP_g_losses hr, zS_g_losses hr, zP_g_rows hr, zS_g_rows hr, zP_g_deltaBy hr, zS_g_deltaBy hr, zP_g_prices hr, zS_g_prices hr, zP_g_unrests hr, zS_g_unrests hr, zS_b0 hq, zP_b0_0 hq, zP_b0_1 hq, zP_b0_2 hq, zP_b0_3 hq, zP_b0_4 hq, zP_b0_5 hq, zS_b1 hq, zS_b3 hq, zS_b5 hq, zS_b7 hq, zS_b9 hq, zS_b11 hq, bk_n1 hb', c_worthOf hq hb' hl, ep.1, ep.2, isub_ok, c_fit hr]
      rw [show pWorth b i ((b 0).2 ((b 3).2 i 0) 0) ((b 0).2 ((b 3).2 i 0) 1) - pWorth b i (pPrice b ((b 3).2 i 0) k) (pUnr b ((b 3).2 i 0) k) = pLess b i k from rfl]
      rw [at_1 hq (BK_fitm hb' (by omega)) (by omega) (by omega) (by omega) (by omega)]
      simp (disch := first | assumption | omega | (simp (disch := omega) only [gU_row, gU_same, gU_i, gCp_row] <;> omega)) only [e_X3_addLosses, s_X3_addLosses_0, s_X3_addLosses_1, s_X3_addLosses_4, s_X3_addLosses_7, s_X3_addLosses_10, s_X3_addLosses_13, s_X3_addLosses_14, s_X3_addLosses_15, s_X3_addLosses_18, s_X3_addLosses_21, s_X3_addLosses_22, s_X3_addLosses_23, s_X3_addLosses_26, s_X3_addLosses_27, s_X3_addLosses_28, s_X3_addLosses_31, s_X3_addLosses_32, s_X3_addLosses_33, s_X3_addLosses_36, s_X3_addLosses_39, s_X3_addLosses_40, s_X3_addLosses_41, s_X3_addLosses_44, s_X3_addLosses_45, s_X3_addLosses_48, s_X3_addLosses_51, s_X3_addLosses_52, s_X3_addLosses_53, s_X3_addLosses_56, s_X3_addLosses_59, s_X3_addLosses_60, s_X3_addLosses_61, s_X3_addLosses_64, s_X3_addLosses_65, s_X3_addLosses_68, s_X3_addLosses_71, s_X3_addLosses_72, s_X3_addLosses_73, s_X3_addLosses_76, s_X3_addLosses_77, s_X3_addLosses_78, s_X3_addLosses_81, s_X3_addLosses_84, s_X3_addLosses_85, s_X3_addLosses_86, s_X3_addLosses_89, s_X3_addLosses_90, s_X3_addLosses_91, s_X3_addLosses_94, s_X3_addLosses_96, s_X3_addLosses_97, s_X3_addLosses_101, s_X3_addLosses_102, s_X3_addLosses_105, s_X3_addLosses_108, s_X3_addLosses_111, s_X3_addLosses_114, s_X3_addLosses_115, s_X3_addLosses_116, s_X3_addLosses_119, s_X3_addLosses_120, s_X3_addLosses_121, s_X3_addLosses_124, s_X3_addLosses_125, s_X3_addLosses_126, s_X3_addLosses_128, s_X3_addLosses_129, s_X3_addLosses_130, s_X3_addLosses_133, s_X3_addLosses_134, s_X3_addLosses_135, s_X3_addLosses_137, s_X3_addLosses_138, s_X3_addLosses_141, s_X3_addLosses_142, s_X3_addLosses_144, s_X3_addLosses_145, s_X3_addLosses_148, s_X3_addLosses_149, s_X3_addLosses_152, s_X3_addLosses_154, s_X3_addLosses_156, s_X3_addLosses_157, s_X3_addLosses_158, s_X3_addLosses_161, s_X3_addLosses_162, s_X3_addLosses_165, s_X3_addLosses_168, s_X3_addLosses_170, s_X3_addLosses_171, s_X3_addLosses_174, s_X3_addLosses_175, s_X3_addLosses_176, s_X3_addLosses_179, s_X3_addLosses_182, s_X3_addLosses_183, s_X3_addLosses_185, s_X3_addLosses_186, s_X3_addLosses_189, s_X3_addLosses_190, s_X3_addLosses_191, s_X3_addLosses_193, s_X3_addLosses_195, s_X3_addLosses_196, s_X3_addLosses_197, s_X3_addLosses_198, s_X3_addLosses_201, s_X3_addLosses_202, s_X3_addLosses_203, s_X3_addLosses_205, s_X3_addLosses_206, s_X3_addLosses_207, s_X3_addLosses_209, s_X3_addLosses_210, s_X3_addLosses_211, s_X3_addLosses_214, s_X3_addLosses_217, ↓reduceIte, Option.toList_some, Option.toList_none, List.cons_append, List.nil_append, List.singleton_append, List.append_nil, true_and, and_true, true_or, or_true, andT, iteT, iteF, itT, itF, zS_r0 hr, zP_r0_0 hr, zP_r0_1 hr, zP_r0_2 hr, zP_r0_3 hr, zP_r0_4 hr, zP_r0_5 hr, zP_r0_6 hr, zP_r0_7 hr, zP_r0_8 hr, zP_r0_9 hr, zP_r0_10 hr, zP_r0_11 hr, zP_r0_12 hr, zP_r0_13 hr, zP_r0_14 hr, zP_r0_15 hr, zS_r14 hr, zP_r14_1 hr, zP_r14_2 hr, zP_r14_3 hr, zP_r14_4 hr, zP_r14_6 hr, zP_r14_7 hr, zP_r14_8 hr, zP_r14_9 hr, zP_r14_10 hr, zP_r14_11 hr, zP_r14_12 hr, zP_r14_13 hr, zP_r14_14 hr, zP_r14_15 hr, zS_r15 hr, zS_r16 hr, zS_r17 hr, zS_r18 hr, zS_r19 hr, zS_r20 hr, zS_r21 hr, zS_r22 hr, zS_r23 hr, zS_r24 hr, zS_r25 hr, zS_r26 hr, zS_r27 hr, zS_r28 hr, zS_r29 hr, zS_r54 hr, zS_r55 hr, zS_r61 hr, zS_r67 hr, zS_r68 hr, zS_r69 hr, zS_r70 hr, zS_r71 hr, zS_r72 hr, zS_r73 hr, zS_r79 hr, zS_r85 hr, zS_r86 hr, zP_g_losses hr, zS_g_losses hr, zP_g_rows hr, zS_g_rows hr, zP_g_deltaBy hr, zS_g_deltaBy hr, zP_g_prices hr, zS_g_prices hr, zP_g_unrests hr, zS_g_unrests hr, zS_b0 hq, zP_b0_0 hq, zP_b0_1 hq, zP_b0_2 hq, zP_b0_3 hq, zP_b0_4 hq, zP_b0_5 hq, zS_b1 hq, zS_b3 hq, zS_b5 hq, zS_b7 hq, zS_b9 hq, zS_b11 hq, c_fit hr, iadd_ok, fitm_row, gU_row]
      generalize hv1 : lmul (fitv (pLots b i)) (pLess b i k) = v1
      generalize hv2 : lmul (fitv v1) ((b 1).2 k 2) = v2
      have hj2 := J_fit (x := v1) f3 (fun hB hf => by
        obtain ⟨q1, q2, q3, q4, q5, q6, q7, q8, q9⟩ := hB
        have ho := q8 (by omega)
        have ho' := ho
        unfold okI at ho'
        have bd := mul_bd (a := pLots b i) (b := pLess b i k) 2147483648 2400 (by omega) (by omega) (by omega) (by omega)
        rw [← hv1, fitv_ok ho, lmul_ok (by omega) (by omega)]
        exact ((hF hf).2.1 k (by omega) (by omega)).1)
      have hj3 := J_fit (x := v2) hj2 (fun ⟨hB, ho1, he1⟩ hf => by
        obtain ⟨q1, q2, q3, q4, q5, q6, q7, q8, q9⟩ := hB
        have ho := q8 (by omega)
        have ho' := ho
        unfold okI at ho'
        have bd := mul_bd (a := pLots b i) (b := pLess b i k) 2147483648 2400 (by omega) (by omega) (by omega) (by omega)
        rw [fitv_ok ho, lmul_ok (by omega) (by omega)] at hv1
        have ho1' := ho1
        unfold okI at ho1'
        have bd2 := mul_bd (a := v1) (b := (b 1).2 k 2) 2147483648 100 (by omega) (by omega) (by omega) (by omega)
        rw [← hv2, fitv_ok ho1, lmul_ok (by omega) (by omega), ← hv1]
        exact ((hF hf).2.1 k (by omega) (by omega)).2)
      refine hn _ _ ⟨⟨_, _, rfl⟩, ?_, ?_, ?_⟩
      · intro a ha
        rw [gU_row (by omega), gU_row (by omega), fitm_row (by omega), fitm_row (by omega), f1 a ha]
      · intro g j g0 g1 j0 j1
        have := f2 g j g0 g1 j0 j1
        simp (disch := omega) only [gU_row, fitm_row]
        exact this
      · refine J_gU (J_gU (J_mono hj3 (fun ⟨⟨hB, ho1, he1⟩, ho2, he2⟩ => ?_)) (by omega)) (by omega)
        obtain ⟨q1, q2, q3, q4, q5, q6, q7, q8, q9⟩ := hB
        have ho := q8 (by omega)
        have ho' := ho
        unfold okI at ho'
        have bd := mul_bd (a := pLots b i) (b := pLess b i k) 2147483648 2400 (by omega) (by omega) (by omega) (by omega)
        rw [fitv_ok ho, lmul_ok (by omega) (by omega)] at hv1
        have ho1' := ho1
        unfold okI at ho1'
        have bd2 := mul_bd (a := v1) (b := (b 1).2 k 2) 2147483648 100 (by omega) (by omega) (by omega) (by omega)
        rw [fitv_ok ho1, lmul_ok (by omega) (by omega), ← hv1] at hv2
        have eC : v2 = pC b i k := hv2.symm
        have eB : v1 = pB b i k := hv1.symm
        rw [he2, he1, fitv_ok ho2, eC]
        rw [eC] at ho2
        rw [eB] at ho1
        have ho2' := ho2
        unfold okI at ho2'
        have hd : -21474837 ≤ pLoss b i k ∧ pLoss b i k ≤ 21474837 := by
          unfold pLoss td
          split <;> omega
        rw [ldiv_lit (by omega) (by omega) (by omega) (by omega), show td (pC b i k) 100 = pLoss b i k from rfl, l2i_ok (by omega) (by omega)]
        have er : m1 (r + 56 + (b 3).2 i 0) k = pRow b ((b 3).2 i 0) k i := by
          rw [q1 _ k a.1.1 a.1.2 (by omega) (by omega), if_neg (by omega)]
        have rb := pRow_bd (b := b) (g := (b 3).2 i 0) (j := k) i (fun l l0 l1 => ((q7 l l0 l1).2.1 k (by omega) (by omega)).2)
        rw [er, ladd_ok (by omega) (by omega)]
        refine ⟨fun g j g0 g1 j0 j1 => ?_, fun g e g0 g1 e0 e1 => ?_, fun g g0 g1 => ?_, fun l j l0 l1 j0 j1 => ?_, fun j j0 j1 => ?_, fun l l0 l1 => ?_, q7, q8, fun j j0 j1 => ?_⟩
        · by_cases hg2 : g = (b 3).2 i 0
          · subst hg2
            by_cases hjk : j = k
            · subst hjk
              rw [gU_same, if_pos (by omega), pRow_s, if_pos rfl]
            · rw [gU_i (by omega), gU_row (by omega), q1 _ j g0 g1 j0 j1]
              by_cases hjk2 : j < (k : Int)
              · rw [if_pos hjk2, if_pos (by omega)]
              · rw [if_neg hjk2, if_neg (by omega)]
          · have hx : pRow b g j (i + 1) = pRow b g j i := by rw [pRow_s, if_neg (fun h => hg2 h.symm)]
            rw [gU_row (by omega), gU_row (by omega), q1 _ j g0 g1 j0 j1, hx]
            simp
        · rw [gU_row (by omega), gU_row (by omega)]
          exact q2 g e g0 g1 e0 e1
        · rw [gU_row (by omega), gU_row (by omega)]
          exact q3 g g0 g1
        · rw [gU_row (by omega), gU_row (by omega)]
          exact q4 l j l0 l1 j0 j1
        · rw [gU_row (by omega)]
          by_cases hjk : j = k
          · subst hjk
            rw [gU_same]
          · rw [gU_i (by omega)]
            exact q5 j j0 (by omega)
        · rw [gU_row (by omega), gU_row (by omega)]
          exact q6 l l0 l1
        · by_cases hjk : j = k
          · subst hjk
            exact ⟨ho1, ho2⟩
          · exact q9 j j0 (by omega)
    · rintro ls m1 ⟨⟨u, v, rfl⟩, f1, f2, f3⟩
      have hb' := BK_fr hb f1 (by omega)
      rw [s_X3_addLosses_99]
      simp (disch := first | assumption | omega | (simp (disch := omega) only [gU_row, gU_same, gU_i, gCp_row] <;> omega)) only [e_X3_addLosses, s_X3_addLosses_0, s_X3_addLosses_1, s_X3_addLosses_4, s_X3_addLosses_7, s_X3_addLosses_10, s_X3_addLosses_13, s_X3_addLosses_14, s_X3_addLosses_15, s_X3_addLosses_18, s_X3_addLosses_21, s_X3_addLosses_22, s_X3_addLosses_23, s_X3_addLosses_26, s_X3_addLosses_27, s_X3_addLosses_28, s_X3_addLosses_31, s_X3_addLosses_32, s_X3_addLosses_33, s_X3_addLosses_36, s_X3_addLosses_39, s_X3_addLosses_40, s_X3_addLosses_41, s_X3_addLosses_44, s_X3_addLosses_45, s_X3_addLosses_48, s_X3_addLosses_51, s_X3_addLosses_52, s_X3_addLosses_53, s_X3_addLosses_56, s_X3_addLosses_59, s_X3_addLosses_60, s_X3_addLosses_61, s_X3_addLosses_64, s_X3_addLosses_65, s_X3_addLosses_68, s_X3_addLosses_71, s_X3_addLosses_72, s_X3_addLosses_73, s_X3_addLosses_76, s_X3_addLosses_77, s_X3_addLosses_78, s_X3_addLosses_81, s_X3_addLosses_84, s_X3_addLosses_85, s_X3_addLosses_86, s_X3_addLosses_89, s_X3_addLosses_90, s_X3_addLosses_91, s_X3_addLosses_94, s_X3_addLosses_96, s_X3_addLosses_97, s_X3_addLosses_101, s_X3_addLosses_102, s_X3_addLosses_105, s_X3_addLosses_108, s_X3_addLosses_111, s_X3_addLosses_114, s_X3_addLosses_115, s_X3_addLosses_116, s_X3_addLosses_119, s_X3_addLosses_120, s_X3_addLosses_121, s_X3_addLosses_124, s_X3_addLosses_125, s_X3_addLosses_126, s_X3_addLosses_128, s_X3_addLosses_129, s_X3_addLosses_130, s_X3_addLosses_133, s_X3_addLosses_134, s_X3_addLosses_135, s_X3_addLosses_137, s_X3_addLosses_138, s_X3_addLosses_141, s_X3_addLosses_142, s_X3_addLosses_144, s_X3_addLosses_145, s_X3_addLosses_148, s_X3_addLosses_149, s_X3_addLosses_152, s_X3_addLosses_154, s_X3_addLosses_156, s_X3_addLosses_157, s_X3_addLosses_158, s_X3_addLosses_161, s_X3_addLosses_162, s_X3_addLosses_165, s_X3_addLosses_168, s_X3_addLosses_170, s_X3_addLosses_171, s_X3_addLosses_174, s_X3_addLosses_175, s_X3_addLosses_176, s_X3_addLosses_179, s_X3_addLosses_182, s_X3_addLosses_183, s_X3_addLosses_185, s_X3_addLosses_186, s_X3_addLosses_189, s_X3_addLosses_190, s_X3_addLosses_191, s_X3_addLosses_193, s_X3_addLosses_195, s_X3_addLosses_196, s_X3_addLosses_197, s_X3_addLosses_198, s_X3_addLosses_201, s_X3_addLosses_202, s_X3_addLosses_203, s_X3_addLosses_205, s_X3_addLosses_206, s_X3_addLosses_207, s_X3_addLosses_209, s_X3_addLosses_210, s_X3_addLosses_211, s_X3_addLosses_214, s_X3_addLosses_217, ↓reduceIte, Option.toList_some, Option.toList_none, List.cons_append, List.nil_append, List.singleton_append, List.append_nil, true_and, and_true, true_or, or_true, andT, iteT, iteF, itT, itF, zS_r0 hr, zP_r0_0 hr, zP_r0_1 hr, zP_r0_2 hr, zP_r0_3 hr, zP_r0_4 hr, zP_r0_5 hr, zP_r0_6 hr, zP_r0_7 hr, zP_r0_8 hr, zP_r0_9 hr, zP_r0_10 hr, zP_r0_11 hr, zP_r0_12 hr, zP_r0_13 hr, zP_r0_14 hr, zP_r0_15 hr, zS_r14 hr, zP_r14_1 hr, zP_r14_2 hr, zP_r14_3 hr, zP_r14_4 hr, zP_r14_6 hr, zP_r14_7 hr, zP_r14_8 hr, zP_r14_9 hr, zP_r14_10 hr, zP_r14_11 hr, zP_r14_12 hr, zP_r14_13 hr, zP_r14_14 hr, zP_r14_15 hr, zS_r15 hr, zS_r16 hr, zS_r17 hr, zS_r18 hr, zS_r19 hr, zS_r20 hr, zS_r21 hr, zS_r22 hr, zS_r23 hr, zS_r24 hr, zS_r25 hr, zS_r26 hr, zS_r27 hr, zS_r28 hr, zS_r29 hr, zS_r54 hr, zS_r55 hr, zS_r61 hr, zS_r67 hr, zS_r68 hr, zS_r69 hr, zS_r70 hr, zS_r71 hr, zS_r72 hr, zS_r73 hr, zS_r79 hr, zS_r85 hr, zS_r86 hr, zS_b0 hq, zP_b0_0 hq, zP_b0_1 hq, zP_b0_2 hq, zP_b0_3 hq, zP_b0_4 hq, zP_b0_5 hq, zS_b1 hq, zS_b3 hq, zS_b5 hq, zS_b7 hq, zS_b9 hq, zS_b11 hq, bk_n1 hb']
      exact hk _ f1 f2 f3
theorem pMore_bd (hg : WfG b) (hl : WfL b) (h0 : 0 ≤ x) (h1 : x < (b 3).1) : -2400 ≤ pMore b x ∧ pMore b x ≤ 2400 := by
  have a := hl x h0 h1
  have bg := hg _ a.1.1 a.1.2
  have w1 := pWorth_bd (p := (b 0).2 ((b 3).2 x 0) 0 + 1) (u := (b 0).2 ((b 3).2 x 0) 1) hl h0 h1 (by omega) (by omega) (by omega) (by omega)
  have w2 := pWorth_bd (p := max ((b 0).2 ((b 3).2 x 0) 0 - 1) 0) (u := (b 0).2 ((b 3).2 x 0) 1) hl h0 h1 (by omega) (by omega) (by omega) (by omega)
  unfold pMore
  omega
theorem pDB_bd : ∀ n : Nat, (∀ l, 0 ≤ l → l < (n : Int) → okI (pLD b l)) → -(2147483648 * (n : Int)) ≤ pDB b g e n ∧ pDB b g e n ≤ 2147483648 * n := by
  intro n
  induction n with
  | zero => intro _; exact ⟨by simp [pDB, it], by simp [pDB, it]⟩
  | succ n ih =>
    intro h
    have a := ih (fun l h0 h1 => h l h0 (by omega))
    have c := h n (by omega) (by omega)
    unfold okI at c
    rw [pDB_s]
    split <;> omega
theorem pSh_bd : ∀ n : Nat, (∀ l, 0 ≤ l → l < (n : Int) → -2147483648 ≤ (b 3).2 l 4) → 0 ≤ pSh b g n ∧ pSh b g n ≤ 2147483648 * n := by
  intro n
  induction n with
  | zero => intro _; exact ⟨by simp [pSh, it], by simp [pSh, it]⟩
  | succ n ih =>
    intro h
    have a := ih (fun l h0 h1 => h l h0 (by omega))
    have c := h n (by omega) (by omega)
    rw [pSh_s]
    split <;> omega
set_option maxHeartbeats 1000000 in
theorem c_addDelta {i : Nat} (hr : RB r) (hb : BK m (r + 1) b) (hg : WfG b) (hm : WfM b) (hl : WfL b) (hQ : WfQ b) (hi : (i : Int) < (b 3).1) (hA : QA m r b) (hJ : J m r F (QL m r b i (b 1).1.toNat)) (hF : F → LegOk b i) (hk : ∀ m', Fr (r + 30) (r + 86) m m' → QA m' r b → J m' r F (QB m' r b (i + 1)) → K none (w0 L z X Y) m') : C (d + 3) M_X3_addDelta [(2, r), (0, i)] (w0 L z X Y) m K := by
  have hq := BB_r hr
  have hr0 : 1 ≤ r := by rcases hr with h | h <;> omega
  have hs := BK_s1 hb
  have hs3 := BK_s3 hb
  have b0 := BK_b0 hb
  have a := hl i (by omega) hi
  have bg := hg _ a.1.1 a.1.2
  have aq := hQ i (by omega) hi
  have w1 := pWorth_bd (p := (b 0).2 ((b 3).2 i 0) 0 + 1) (u := (b 0).2 ((b 3).2 i 0) 1) hl (show (0 : Int) ≤ i by omega) hi (by omega) (by omega) (by omega) (by omega)
  have w2 := pWorth_bd (p := max ((b 0).2 ((b 3).2 i 0) 0 - 1) 0) (u := (b 0).2 ((b 3).2 i 0) 1) hl (show (0 : Int) ≤ i by omega) hi (by omega) (by omega) (by omega) (by omega)
  have pm := pMore_bd (x := i) hg hl (by omega) hi
  have e5 : lmul ((b 3).2 i 4) 5 = (b 3).2 i 4 * 5 := lmul_ok (by omega) (by omega)
  simp (disch := first | assumption | omega | (simp (disch := omega) only [gU_row, gU_same, gU_i, gCp_row] <;> omega)) only [e_X3_addDelta, s_X3_addDelta_0, s_X3_addDelta_1, s_X3_addDelta_4, s_X3_addDelta_7, s_X3_addDelta_8, s_X3_addDelta_9, s_X3_addDelta_12, s_X3_addDelta_13, s_X3_addDelta_14, s_X3_addDelta_17, s_X3_addDelta_20, s_X3_addDelta_21, s_X3_addDelta_22, s_X3_addDelta_25, s_X3_addDelta_26, s_X3_addDelta_27, s_X3_addDelta_30, s_X3_addDelta_33, s_X3_addDelta_34, s_X3_addDelta_35, s_X3_addDelta_38, s_X3_addDelta_40, s_X3_addDelta_41, s_X3_addDelta_44, s_X3_addDelta_47, s_X3_addDelta_48, s_X3_addDelta_49, s_X3_addDelta_52, s_X3_addDelta_53, s_X3_addDelta_55, s_X3_addDelta_56, s_X3_addDelta_57, s_X3_addDelta_58, s_X3_addDelta_59, s_X3_addDelta_62, s_X3_addDelta_64, s_X3_addDelta_65, s_X3_addDelta_68, s_X3_addDelta_69, s_X3_addDelta_70, s_X3_addDelta_71, s_X3_addDelta_72, s_X3_addDelta_74, s_X3_addDelta_77, s_X3_addDelta_78, s_X3_addDelta_81, s_X3_addDelta_82, s_X3_addDelta_84, s_X3_addDelta_86, s_X3_addDelta_89, s_X3_addDelta_90, s_X3_addDelta_92, s_X3_addDelta_93, s_X3_addDelta_96, s_X3_addDelta_97, s_X3_addDelta_98, s_X3_addDelta_101, s_X3_addDelta_102, s_X3_addDelta_105, s_X3_addDelta_107, s_X3_addDelta_110, s_X3_addDelta_111, s_X3_addDelta_114, s_X3_addDelta_116, s_X3_addDelta_117, s_X3_addDelta_118, s_X3_addDelta_121, s_X3_addDelta_122, s_X3_addDelta_123, s_X3_addDelta_126, s_X3_addDelta_127, s_X3_addDelta_128, s_X3_addDelta_129, s_X3_addDelta_132, s_X3_addDelta_135, s_X3_addDelta_136, s_X3_addDelta_137, s_X3_addDelta_140, s_X3_addDelta_141, s_X3_addDelta_142, s_X3_addDelta_143, s_X3_addDelta_146, s_X3_addDelta_147, s_X3_addDelta_148, s_X3_addDelta_149, s_X3_addDelta_150, s_X3_addDelta_152, s_X3_addDelta_153, s_X3_addDelta_154, s_X3_addDelta_157, s_X3_addDelta_158, s_X3_addDelta_161, s_X3_addDelta_164, s_X3_addDelta_165, s_X3_addDelta_166, s_X3_addDelta_169, s_X3_addDelta_172, s_X3_addDelta_173, s_X3_addDelta_176, s_X3_addDelta_177, s_X3_addDelta_178, s_X3_addDelta_179, s_X3_addDelta_181, s_X3_addDelta_182, ↓reduceIte, Option.toList_some, Option.toList_none, List.cons_append, List.nil_append, List.singleton_append, List.append_nil, true_and, and_true, true_or, or_true, andT, iteT, iteF, itT, itF, zS_r0 hr, zP_r0_0 hr, zP_r0_1 hr, zP_r0_2 hr, zP_r0_3 hr, zP_r0_4 hr, zP_r0_5 hr, zP_r0_6 hr, zP_r0_7 hr, zP_r0_8 hr, zP_r0_9 hr, zP_r0_10 hr, zP_r0_11 hr, zP_r0_12 hr, zP_r0_13 hr, zP_r0_14 hr, zP_r0_15 hr, zS_r14 hr, zP_r14_1 hr, zP_r14_2 hr, zP_r14_3 hr, zP_r14_4 hr, zP_r14_6 hr, zP_r14_7 hr, zP_r14_8 hr, zP_r14_9 hr, zP_r14_10 hr, zP_r14_11 hr, zP_r14_12 hr, zP_r14_13 hr, zP_r14_14 hr, zP_r14_15 hr, zS_r15 hr, zS_r16 hr, zS_r17 hr, zS_r18 hr, zS_r19 hr, zS_r20 hr, zS_r21 hr, zS_r22 hr, zS_r23 hr, zS_r24 hr, zS_r25 hr, zS_r26 hr, zS_r27 hr, zS_r28 hr, zS_r29 hr, zS_r54 hr, zS_r55 hr, zS_r61 hr, zS_r67 hr, zS_r68 hr, zS_r69 hr, zS_r70 hr, zS_r71 hr, zS_r72 hr, zS_r73 hr, zS_r79 hr, zS_r85 hr, zS_r86 hr, zP_g_losses hr, zS_g_losses hr, zP_g_rows hr, zS_g_rows hr, zP_g_deltaBy hr, zS_g_deltaBy hr, zP_g_prices hr, zS_g_prices hr, zP_g_unrests hr, zS_g_unrests hr, zS_b0 hq, zP_b0_0 hq, zP_b0_1 hq, zP_b0_2 hq, zP_b0_3 hq, zP_b0_4 hq, zP_b0_5 hq, zS_b1 hq, zS_b3 hq, zS_b5 hq, zS_b7 hq, zS_b9 hq, zS_b11 hq, at_0 hq hb, at_1 hq hb, at_2 hq hb, at_3 hq hb, at_4 hq hb, at_5 hq hb, iadd_ok, isub_ok, imul_ok, imax_eq, imin_eq, iabs_ok, idiv_lit, td_nn, ne_eq, not_true_eq_false, not_false_eq_true, c_worthOf hq hb hl, c_fit hr, e5]
  rw [show pWorth b i ((b 0).2 ((b 3).2 i 0) 0 + 1) ((b 0).2 ((b 3).2 i 0) 1) - pWorth b i (max ((b 0).2 ((b 3).2 i 0) 0 - 1) 0) ((b 0).2 ((b 3).2 i 0) 1) = pMore b i from rfl]
  generalize hv2 : lmul (fitv ((b 3).2 i 4 * 5)) (pMore b i) = v2
  have hj1 := J_fit (x := (b 3).2 i 4 * 5) hJ (fun _ hf => (hF hf).2.2.1)
  have hj2 := J_fit (x := v2) hj1 (fun ⟨hB, ho1, he1⟩ hf => by
    have ho1' := ho1
    unfold okI at ho1'
    have bd2 := mul_bd (a := (b 3).2 i 4 * 5) (b := pMore b i) 2147483648 2400 (by omega) (by omega) (by omega) (by omega)
    rw [← hv2, fitv_ok ho1, lmul_ok (by omega) (by omega)]
    exact (hF hf).2.2.2)
  have hbM : BK (fitm (fitm m (r + 86) ((b 3).2 i 4 * 5)) (r + 86) v2) (r + 1) b := BK_fitm (BK_fitm hb (by omega)) (by omega)
  have hrow : ∀ a, a ≠ r + 86 → fitm (fitm m (r + 86) ((b 3).2 i 4 * 5)) (r + 86) v2 a = m a := fun a ha => by rw [fitm_row ha, fitm_row ha]
  generalize hM : fitm (fitm m (r + 86) ((b 3).2 i 4 * 5)) (r + 86) v2 = M at *
  have fin : ∀ mm : gM, (∀ l, mm (r + 54) l = if l = (i : Int) then fitv v2 else m (r + 54) l) → (∀ e, mm (r + 62 + (b 3).2 i 0) e = if e = (b 3).2 i 2 then ladd (m (r + 62 + (b 3).2 i 0) e) (fitv v2) else m (r + 62 + (b 3).2 i 0) e) → (∀ g, mm (r + 70) g = if g = (b 3).2 i 0 ∧ (b 3).2 i 4 < 0 ∧ (b 3).2 i 1 ≠ 0 then lsub (m (r + 70) g) ((b 3).2 i 4) else m (r + 70) g) → (∀ a, a ≠ r + 54 → a ≠ r + 62 + (b 3).2 i 0 → a ≠ r + 70 → mm a = M a) → K none (w0 L z X Y) mm := by
    intro mm e1 e2 e3 e4
    refine hk mm (fun a ha => by rw [e4 a (by omega) (by omega) (by omega), hrow a (by omega)]) (fun g j g0 g1 j0 j1 => ?_) (J_fr (J_mono hj2 (fun ⟨⟨hB, ho1, he1⟩, ho2, he2⟩ => ?_)) (e4 _ (by omega) (by omega) (by omega)))
    · have := hA g j g0 g1 j0 j1
      rw [e4 _ (by omega) (by omega) (by omega), e4 _ (by omega) (by omega) (by omega), hrow _ (by omega), hrow _ (by omega)]
      exact this
    · obtain ⟨q1, q2, q3, q4, q5, q6, q7, q8, q9⟩ := hB
      have ho1' := ho1
      unfold okI at ho1'
      have bd2 := mul_bd (a := (b 3).2 i 4 * 5) (b := pMore b i) 2147483648 2400 (by omega) (by omega) (by omega) (by omega)
      rw [fitv_ok ho1, lmul_ok (by omega) (by omega)] at hv2
      have eD : v2 = pLD b i := hv2.symm
      rw [fitv_ok ho2, eD] at e1 e2
      rw [eD] at ho2
      have ho2' := ho2
      unfold okI at ho2'
      refine ⟨fun g j g0 g1 j0 j1 => ?_, fun g e g0 g1 e0 e1' => ?_, fun g g0 g1 => ?_, fun l j l0 l1 j0 j1 => ?_, fun l l0 l1 => ?_, fun l l0 l1 => ?_⟩
      · rw [e4 _ (by omega) (by omega) (by omega), hrow _ (by omega), q1 g j g0 g1 j0 j1, if_pos (by omega)]
      · by_cases hg2 : g = (b 3).2 i 0
        · subst hg2
          have db := pDB_bd (b := b) (g := (b 3).2 i 0) (e := e) i (fun l l0 l1 => (q7 l l0 l1).2.2.2)
          rw [e2, pDB_s, q2 _ e g0 g1 e0 e1']
          by_cases he : e = (b 3).2 i 2
          · rw [if_pos he, if_pos ⟨rfl, he.symm⟩, ladd_ok (by omega) (by omega)]
          · rw [if_neg he, if_neg (fun h => he h.2.symm)]
        · rw [e4 _ (by omega) (by omega) (by omega), hrow _ (by omega), q2 g e g0 g1 e0 e1', pDB_s, if_neg (fun h => hg2 h.1.symm)]
      · have sb := pSh_bd (b := b) (g := g) i (fun l l0 l1 => (hQ l l0 (by omega)).1)
        rw [e3, q3 g g0 g1, pSh_s]
        by_cases hc : g = (b 3).2 i 0 ∧ (b 3).2 i 4 < 0 ∧ (b 3).2 i 1 ≠ 0
        · rw [if_pos hc, if_pos ⟨hc.1.symm, hc.2⟩, lsub_ok (by omega) (by omega)]
        · rw [if_neg hc, if_neg (fun h => hc ⟨h.1.symm, h.2⟩)]
      · rw [e4 _ (by omega) (by omega) (by omega), hrow _ (by omega)]
        by_cases hl2 : l = i
        · subst hl2
          exact q5 j j0 (by omega)
        · exact q4 l j l0 (by omega) j0 j1
      · rw [e1]
        by_cases hl2 : l = i
        · rw [if_pos hl2, hl2]
        · rw [if_neg hl2]
          exact q6 l l0 (by omega)
      · by_cases hl2 : l = i
        · subst hl2
          exact ⟨q8, fun j j0 j1 => q9 j j0 (by omega), ho1, ho2⟩
        · exact q7 l l0 (by omega)
  rw [at_3 hq (BK_gU hbM (by omega)) (by omega) (by omega) (by omega) (by omega)]
  by_cases hq0 : 0 ≤ (b 3).2 i 4
  · simp (disch := first | assumption | omega | (simp (disch := omega) only [gU_row, gU_same, gU_i, gCp_row] <;> omega)) only [e_X3_addDelta, s_X3_addDelta_0, s_X3_addDelta_1, s_X3_addDelta_4, s_X3_addDelta_7, s_X3_addDelta_8, s_X3_addDelta_9, s_X3_addDelta_12, s_X3_addDelta_13, s_X3_addDelta_14, s_X3_addDelta_17, s_X3_addDelta_20, s_X3_addDelta_21, s_X3_addDelta_22, s_X3_addDelta_25, s_X3_addDelta_26, s_X3_addDelta_27, s_X3_addDelta_30, s_X3_addDelta_33, s_X3_addDelta_34, s_X3_addDelta_35, s_X3_addDelta_38, s_X3_addDelta_40, s_X3_addDelta_41, s_X3_addDelta_44, s_X3_addDelta_47, s_X3_addDelta_48, s_X3_addDelta_49, s_X3_addDelta_52, s_X3_addDelta_53, s_X3_addDelta_55, s_X3_addDelta_56, s_X3_addDelta_57, s_X3_addDelta_58, s_X3_addDelta_59, s_X3_addDelta_62, s_X3_addDelta_64, s_X3_addDelta_65, s_X3_addDelta_68, s_X3_addDelta_69, s_X3_addDelta_70, s_X3_addDelta_71, s_X3_addDelta_72, s_X3_addDelta_74, s_X3_addDelta_77, s_X3_addDelta_78, s_X3_addDelta_81, s_X3_addDelta_82, s_X3_addDelta_84, s_X3_addDelta_86, s_X3_addDelta_89, s_X3_addDelta_90, s_X3_addDelta_92, s_X3_addDelta_93, s_X3_addDelta_96, s_X3_addDelta_97, s_X3_addDelta_98, s_X3_addDelta_101, s_X3_addDelta_102, s_X3_addDelta_105, s_X3_addDelta_107, s_X3_addDelta_110, s_X3_addDelta_111, s_X3_addDelta_114, s_X3_addDelta_116, s_X3_addDelta_117, s_X3_addDelta_118, s_X3_addDelta_121, s_X3_addDelta_122, s_X3_addDelta_123, s_X3_addDelta_126, s_X3_addDelta_127, s_X3_addDelta_128, s_X3_addDelta_129, s_X3_addDelta_132, s_X3_addDelta_135, s_X3_addDelta_136, s_X3_addDelta_137, s_X3_addDelta_140, s_X3_addDelta_141, s_X3_addDelta_142, s_X3_addDelta_143, s_X3_addDelta_146, s_X3_addDelta_147, s_X3_addDelta_148, s_X3_addDelta_149, s_X3_addDelta_150, s_X3_addDelta_152, s_X3_addDelta_153, s_X3_addDelta_154, s_X3_addDelta_157, s_X3_addDelta_158, s_X3_addDelta_161, s_X3_addDelta_164, s_X3_addDelta_165, s_X3_addDelta_166, s_X3_addDelta_169, s_X3_addDelta_172, s_X3_addDelta_173, s_X3_addDelta_176, s_X3_addDelta_177, s_X3_addDelta_178, s_X3_addDelta_179, s_X3_addDelta_181, s_X3_addDelta_182, s_X3_addDelta_183, ↓reduceIte, Option.toList_some, Option.toList_none, List.cons_append, List.nil_append, List.singleton_append, List.append_nil, true_and, and_true, true_or, or_true, andT, iteT, iteF, itT, itF, zS_r0 hr, zP_r0_0 hr, zP_r0_1 hr, zP_r0_2 hr, zP_r0_3 hr, zP_r0_4 hr, zP_r0_5 hr, zP_r0_6 hr, zP_r0_7 hr, zP_r0_8 hr, zP_r0_9 hr, zP_r0_10 hr, zP_r0_11 hr, zP_r0_12 hr, zP_r0_13 hr, zP_r0_14 hr, zP_r0_15 hr, zS_r14 hr, zP_r14_1 hr, zP_r14_2 hr, zP_r14_3 hr, zP_r14_4 hr, zP_r14_6 hr, zP_r14_7 hr, zP_r14_8 hr, zP_r14_9 hr, zP_r14_10 hr, zP_r14_11 hr, zP_r14_12 hr, zP_r14_13 hr, zP_r14_14 hr, zP_r14_15 hr, zS_r15 hr, zS_r16 hr, zS_r17 hr, zS_r18 hr, zS_r19 hr, zS_r20 hr, zS_r21 hr, zS_r22 hr, zS_r23 hr, zS_r24 hr, zS_r25 hr, zS_r26 hr, zS_r27 hr, zS_r28 hr, zS_r29 hr, zS_r54 hr, zS_r55 hr, zS_r61 hr, zS_r67 hr, zS_r68 hr, zS_r69 hr, zS_r70 hr, zS_r71 hr, zS_r72 hr, zS_r73 hr, zS_r79 hr, zS_r85 hr, zS_r86 hr, zP_g_losses hr, zS_g_losses hr, zP_g_rows hr, zS_g_rows hr, zP_g_deltaBy hr, zS_g_deltaBy hr, zP_g_prices hr, zS_g_prices hr, zP_g_unrests hr, zS_g_unrests hr, zS_b0 hq, zP_b0_0 hq, zP_b0_1 hq, zP_b0_2 hq, zP_b0_3 hq, zP_b0_4 hq, zP_b0_5 hq, zS_b1 hq, zS_b3 hq, zS_b5 hq, zS_b7 hq, zS_b9 hq, zS_b11 hq, gU_row, gU_same, hrow, lcmp_ge]
    refine fin _ (fun l => ?_) (fun e => ?_) (fun g => ?_) (fun a h1 h2 h3 => ?_)
    · rw [gU_row (by omega), gU_rw, hrow _ (by omega)]
    · rw [gU_rw]
      by_cases he : e = (b 3).2 i 2
      · exact (by rw [if_pos he, he]; exact if_pos rfl)
      · simp only [if_neg he]
        rw [gU_row (by omega), hrow _ (by omega)]
    · rw [gU_row (by omega), gU_row (by omega), hrow _ (by omega), if_neg (by omega)]
    · rw [gU_row h2, gU_row h1]
  · have hN : ∀ v, BK (gU (gU M (r + 54) i (fitv v2)) (r + 62 + (b 3).2 i 0) ((b 3).2 i 2) v) (r + 1) b := fun v => BK_gU (BK_gU hbM (by omega)) (by omega)
    simp (disch := first | assumption | omega | (simp (disch := omega) only [gU_row, gU_same, gU_i, gCp_row] <;> omega)) only [e_X3_addDelta, s_X3_addDelta_0, s_X3_addDelta_1, s_X3_addDelta_4, s_X3_addDelta_7, s_X3_addDelta_8, s_X3_addDelta_9, s_X3_addDelta_12, s_X3_addDelta_13, s_X3_addDelta_14, s_X3_addDelta_17, s_X3_addDelta_20, s_X3_addDelta_21, s_X3_addDelta_22, s_X3_addDelta_25, s_X3_addDelta_26, s_X3_addDelta_27, s_X3_addDelta_30, s_X3_addDelta_33, s_X3_addDelta_34, s_X3_addDelta_35, s_X3_addDelta_38, s_X3_addDelta_40, s_X3_addDelta_41, s_X3_addDelta_44, s_X3_addDelta_47, s_X3_addDelta_48, s_X3_addDelta_49, s_X3_addDelta_52, s_X3_addDelta_53, s_X3_addDelta_55, s_X3_addDelta_56, s_X3_addDelta_57, s_X3_addDelta_58, s_X3_addDelta_59, s_X3_addDelta_62, s_X3_addDelta_64, s_X3_addDelta_65, s_X3_addDelta_68, s_X3_addDelta_69, s_X3_addDelta_70, s_X3_addDelta_71, s_X3_addDelta_72, s_X3_addDelta_74, s_X3_addDelta_77, s_X3_addDelta_78, s_X3_addDelta_81, s_X3_addDelta_82, s_X3_addDelta_84, s_X3_addDelta_86, s_X3_addDelta_89, s_X3_addDelta_90, s_X3_addDelta_92, s_X3_addDelta_93, s_X3_addDelta_96, s_X3_addDelta_97, s_X3_addDelta_98, s_X3_addDelta_101, s_X3_addDelta_102, s_X3_addDelta_105, s_X3_addDelta_107, s_X3_addDelta_110, s_X3_addDelta_111, s_X3_addDelta_114, s_X3_addDelta_116, s_X3_addDelta_117, s_X3_addDelta_118, s_X3_addDelta_121, s_X3_addDelta_122, s_X3_addDelta_123, s_X3_addDelta_126, s_X3_addDelta_127, s_X3_addDelta_128, s_X3_addDelta_129, s_X3_addDelta_132, s_X3_addDelta_135, s_X3_addDelta_136, s_X3_addDelta_137, s_X3_addDelta_140, s_X3_addDelta_141, s_X3_addDelta_142, s_X3_addDelta_143, s_X3_addDelta_146, s_X3_addDelta_147, s_X3_addDelta_148, s_X3_addDelta_149, s_X3_addDelta_150, s_X3_addDelta_152, s_X3_addDelta_153, s_X3_addDelta_154, s_X3_addDelta_157, s_X3_addDelta_158, s_X3_addDelta_161, s_X3_addDelta_164, s_X3_addDelta_165, s_X3_addDelta_166, s_X3_addDelta_169, s_X3_addDelta_172, s_X3_addDelta_173, s_X3_addDelta_176, s_X3_addDelta_177, s_X3_addDelta_178, s_X3_addDelta_179, s_X3_addDelta_181, s_X3_addDelta_182, s_X3_addDelta_183, ↓reduceIte, Option.toList_some, Option.toList_none, List.cons_append, List.nil_append, List.singleton_append, List.append_nil, true_and, and_true, true_or, or_true, andT, iteT, iteF, itT, itF, zS_r0 hr, zP_r0_0 hr, zP_r0_1 hr, zP_r0_2 hr, zP_r0_3 hr, zP_r0_4 hr, zP_r0_5 hr, zP_r0_6 hr, zP_r0_7 hr, zP_r0_8 hr, zP_r0_9 hr, zP_r0_10 hr, zP_r0_11 hr, zP_r0_12 hr, zP_r0_13 hr, zP_r0_14 hr, zP_r0_15 hr, zS_r14 hr, zP_r14_1 hr, zP_r14_2 hr, zP_r14_3 hr, zP_r14_4 hr, zP_r14_6 hr, zP_r14_7 hr, zP_r14_8 hr, zP_r14_9 hr, zP_r14_10 hr, zP_r14_11 hr, zP_r14_12 hr, zP_r14_13 hr, zP_r14_14 hr, zP_r14_15 hr, zS_r15 hr, zS_r16 hr, zS_r17 hr, zS_r18 hr, zS_r19 hr, zS_r20 hr, zS_r21 hr, zS_r22 hr, zS_r23 hr, zS_r24 hr, zS_r25 hr, zS_r26 hr, zS_r27 hr, zS_r28 hr, zS_r29 hr, zS_r54 hr, zS_r55 hr, zS_r61 hr, zS_r67 hr, zS_r68 hr, zS_r69 hr, zS_r70 hr, zS_r71 hr, zS_r72 hr, zS_r73 hr, zS_r79 hr, zS_r85 hr, zS_r86 hr, zP_g_losses hr, zS_g_losses hr, zP_g_rows hr, zS_g_rows hr, zP_g_deltaBy hr, zS_g_deltaBy hr, zP_g_prices hr, zS_g_prices hr, zP_g_unrests hr, zS_g_unrests hr, zS_b0 hq, zP_b0_0 hq, zP_b0_1 hq, zP_b0_2 hq, zP_b0_3 hq, zP_b0_4 hq, zP_b0_5 hq, zS_b1 hq, zS_b3 hq, zS_b5 hq, zS_b7 hq, zS_b9 hq, zS_b11 hq, gU_row, gU_same, hrow, lcmp_ge]
    rw [at_3 hq (hN _) (by omega) (by omega) (by omega) (by omega)]
    by_cases hk0 : (b 3).2 i 1 = 0
    · simp (disch := first | assumption | omega | (simp (disch := omega) only [gU_row, gU_same, gU_i, gCp_row] <;> omega)) only [e_X3_addDelta, s_X3_addDelta_0, s_X3_addDelta_1, s_X3_addDelta_4, s_X3_addDelta_7, s_X3_addDelta_8, s_X3_addDelta_9, s_X3_addDelta_12, s_X3_addDelta_13, s_X3_addDelta_14, s_X3_addDelta_17, s_X3_addDelta_20, s_X3_addDelta_21, s_X3_addDelta_22, s_X3_addDelta_25, s_X3_addDelta_26, s_X3_addDelta_27, s_X3_addDelta_30, s_X3_addDelta_33, s_X3_addDelta_34, s_X3_addDelta_35, s_X3_addDelta_38, s_X3_addDelta_40, s_X3_addDelta_41, s_X3_addDelta_44, s_X3_addDelta_47, s_X3_addDelta_48, s_X3_addDelta_49, s_X3_addDelta_52, s_X3_addDelta_53, s_X3_addDelta_55, s_X3_addDelta_56, s_X3_addDelta_57, s_X3_addDelta_58, s_X3_addDelta_59, s_X3_addDelta_62, s_X3_addDelta_64, s_X3_addDelta_65, s_X3_addDelta_68, s_X3_addDelta_69, s_X3_addDelta_70, s_X3_addDelta_71, s_X3_addDelta_72, s_X3_addDelta_74, s_X3_addDelta_77, s_X3_addDelta_78, s_X3_addDelta_81, s_X3_addDelta_82, s_X3_addDelta_84, s_X3_addDelta_86, s_X3_addDelta_89, s_X3_addDelta_90, s_X3_addDelta_92, s_X3_addDelta_93, s_X3_addDelta_96, s_X3_addDelta_97, s_X3_addDelta_98, s_X3_addDelta_101, s_X3_addDelta_102, s_X3_addDelta_105, s_X3_addDelta_107, s_X3_addDelta_110, s_X3_addDelta_111, s_X3_addDelta_114, s_X3_addDelta_116, s_X3_addDelta_117, s_X3_addDelta_118, s_X3_addDelta_121, s_X3_addDelta_122, s_X3_addDelta_123, s_X3_addDelta_126, s_X3_addDelta_127, s_X3_addDelta_128, s_X3_addDelta_129, s_X3_addDelta_132, s_X3_addDelta_135, s_X3_addDelta_136, s_X3_addDelta_137, s_X3_addDelta_140, s_X3_addDelta_141, s_X3_addDelta_142, s_X3_addDelta_143, s_X3_addDelta_146, s_X3_addDelta_147, s_X3_addDelta_148, s_X3_addDelta_149, s_X3_addDelta_150, s_X3_addDelta_152, s_X3_addDelta_153, s_X3_addDelta_154, s_X3_addDelta_157, s_X3_addDelta_158, s_X3_addDelta_161, s_X3_addDelta_164, s_X3_addDelta_165, s_X3_addDelta_166, s_X3_addDelta_169, s_X3_addDelta_172, s_X3_addDelta_173, s_X3_addDelta_176, s_X3_addDelta_177, s_X3_addDelta_178, s_X3_addDelta_179, s_X3_addDelta_181, s_X3_addDelta_182, s_X3_addDelta_183, ↓reduceIte, Option.toList_some, Option.toList_none, List.cons_append, List.nil_append, List.singleton_append, List.append_nil, true_and, and_true, true_or, or_true, andT, iteT, iteF, itT, itF, zS_r0 hr, zP_r0_0 hr, zP_r0_1 hr, zP_r0_2 hr, zP_r0_3 hr, zP_r0_4 hr, zP_r0_5 hr, zP_r0_6 hr, zP_r0_7 hr, zP_r0_8 hr, zP_r0_9 hr, zP_r0_10 hr, zP_r0_11 hr, zP_r0_12 hr, zP_r0_13 hr, zP_r0_14 hr, zP_r0_15 hr, zS_r14 hr, zP_r14_1 hr, zP_r14_2 hr, zP_r14_3 hr, zP_r14_4 hr, zP_r14_6 hr, zP_r14_7 hr, zP_r14_8 hr, zP_r14_9 hr, zP_r14_10 hr, zP_r14_11 hr, zP_r14_12 hr, zP_r14_13 hr, zP_r14_14 hr, zP_r14_15 hr, zS_r15 hr, zS_r16 hr, zS_r17 hr, zS_r18 hr, zS_r19 hr, zS_r20 hr, zS_r21 hr, zS_r22 hr, zS_r23 hr, zS_r24 hr, zS_r25 hr, zS_r26 hr, zS_r27 hr, zS_r28 hr, zS_r29 hr, zS_r54 hr, zS_r55 hr, zS_r61 hr, zS_r67 hr, zS_r68 hr, zS_r69 hr, zS_r70 hr, zS_r71 hr, zS_r72 hr, zS_r73 hr, zS_r79 hr, zS_r85 hr, zS_r86 hr, zP_g_losses hr, zS_g_losses hr, zP_g_rows hr, zS_g_rows hr, zP_g_deltaBy hr, zS_g_deltaBy hr, zP_g_prices hr, zS_g_prices hr, zP_g_unrests hr, zS_g_unrests hr, zS_b0 hq, zP_b0_0 hq, zP_b0_1 hq, zP_b0_2 hq, zP_b0_3 hq, zP_b0_4 hq, zP_b0_5 hq, zS_b1 hq, zS_b3 hq, zS_b5 hq, zS_b7 hq, zS_b9 hq, zS_b11 hq, hk0]
      refine fin _ (fun l => ?_) (fun e => ?_) (fun g => ?_) (fun a h1 h2 h3 => ?_)
      · rw [gU_row (by omega), gU_rw, hrow _ (by omega)]
      · rw [gU_rw]
        by_cases he : e = (b 3).2 i 2
        · exact (by rw [if_pos he, he]; exact if_pos rfl)
        · simp only [if_neg he]
          rw [gU_row (by omega), hrow _ (by omega)]
      · rw [gU_row (by omega), gU_row (by omega), hrow _ (by omega), if_neg (by omega)]
      · rw [gU_row h2, gU_row h1]
    · simp (disch := first | assumption | omega | (simp (disch := omega) only [gU_row, gU_same, gU_i, gCp_row] <;> omega)) only [e_X3_addDelta, s_X3_addDelta_0, s_X3_addDelta_1, s_X3_addDelta_4, s_X3_addDelta_7, s_X3_addDelta_8, s_X3_addDelta_9, s_X3_addDelta_12, s_X3_addDelta_13, s_X3_addDelta_14, s_X3_addDelta_17, s_X3_addDelta_20, s_X3_addDelta_21, s_X3_addDelta_22, s_X3_addDelta_25, s_X3_addDelta_26, s_X3_addDelta_27, s_X3_addDelta_30, s_X3_addDelta_33, s_X3_addDelta_34, s_X3_addDelta_35, s_X3_addDelta_38, s_X3_addDelta_40, s_X3_addDelta_41, s_X3_addDelta_44, s_X3_addDelta_47, s_X3_addDelta_48, s_X3_addDelta_49, s_X3_addDelta_52, s_X3_addDelta_53, s_X3_addDelta_55, s_X3_addDelta_56, s_X3_addDelta_57, s_X3_addDelta_58, s_X3_addDelta_59, s_X3_addDelta_62, s_X3_addDelta_64, s_X3_addDelta_65, s_X3_addDelta_68, s_X3_addDelta_69, s_X3_addDelta_70, s_X3_addDelta_71, s_X3_addDelta_72, s_X3_addDelta_74, s_X3_addDelta_77, s_X3_addDelta_78, s_X3_addDelta_81, s_X3_addDelta_82, s_X3_addDelta_84, s_X3_addDelta_86, s_X3_addDelta_89, s_X3_addDelta_90, s_X3_addDelta_92, s_X3_addDelta_93, s_X3_addDelta_96, s_X3_addDelta_97, s_X3_addDelta_98, s_X3_addDelta_101, s_X3_addDelta_102, s_X3_addDelta_105, s_X3_addDelta_107, s_X3_addDelta_110, s_X3_addDelta_111, s_X3_addDelta_114, s_X3_addDelta_116, s_X3_addDelta_117, s_X3_addDelta_118, s_X3_addDelta_121, s_X3_addDelta_122, s_X3_addDelta_123, s_X3_addDelta_126, s_X3_addDelta_127, s_X3_addDelta_128, s_X3_addDelta_129, s_X3_addDelta_132, s_X3_addDelta_135, s_X3_addDelta_136, s_X3_addDelta_137, s_X3_addDelta_140, s_X3_addDelta_141, s_X3_addDelta_142, s_X3_addDelta_143, s_X3_addDelta_146, s_X3_addDelta_147, s_X3_addDelta_148, s_X3_addDelta_149, s_X3_addDelta_150, s_X3_addDelta_152, s_X3_addDelta_153, s_X3_addDelta_154, s_X3_addDelta_157, s_X3_addDelta_158, s_X3_addDelta_161, s_X3_addDelta_164, s_X3_addDelta_165, s_X3_addDelta_166, s_X3_addDelta_169, s_X3_addDelta_172, s_X3_addDelta_173, s_X3_addDelta_176, s_X3_addDelta_177, s_X3_addDelta_178, s_X3_addDelta_179, s_X3_addDelta_181, s_X3_addDelta_182, s_X3_addDelta_183, ↓reduceIte, Option.toList_some, Option.toList_none, List.cons_append, List.nil_append, List.singleton_append, List.append_nil, true_and, and_true, true_or, or_true, andT, iteT, iteF, itT, itF, zS_r0 hr, zP_r0_0 hr, zP_r0_1 hr, zP_r0_2 hr, zP_r0_3 hr, zP_r0_4 hr, zP_r0_5 hr, zP_r0_6 hr, zP_r0_7 hr, zP_r0_8 hr, zP_r0_9 hr, zP_r0_10 hr, zP_r0_11 hr, zP_r0_12 hr, zP_r0_13 hr, zP_r0_14 hr, zP_r0_15 hr, zS_r14 hr, zP_r14_1 hr, zP_r14_2 hr, zP_r14_3 hr, zP_r14_4 hr, zP_r14_6 hr, zP_r14_7 hr, zP_r14_8 hr, zP_r14_9 hr, zP_r14_10 hr, zP_r14_11 hr, zP_r14_12 hr, zP_r14_13 hr, zP_r14_14 hr, zP_r14_15 hr, zS_r15 hr, zS_r16 hr, zS_r17 hr, zS_r18 hr, zS_r19 hr, zS_r20 hr, zS_r21 hr, zS_r22 hr, zS_r23 hr, zS_r24 hr, zS_r25 hr, zS_r26 hr, zS_r27 hr, zS_r28 hr, zS_r29 hr, zS_r54 hr, zS_r55 hr, zS_r61 hr, zS_r67 hr, zS_r68 hr, zS_r69 hr, zS_r70 hr, zS_r71 hr, zS_r72 hr, zS_r73 hr, zS_r79 hr, zS_r85 hr, zS_r86 hr, zP_g_losses hr, zS_g_losses hr, zP_g_rows hr, zS_g_rows hr, zP_g_deltaBy hr, zS_g_deltaBy hr, zP_g_prices hr, zS_g_prices hr, zP_g_unrests hr, zS_g_unrests hr, zS_b0 hq, zP_b0_0 hq, zP_b0_1 hq, zP_b0_2 hq, zP_b0_3 hq, zP_b0_4 hq, zP_b0_5 hq, zS_b1 hq, zS_b3 hq, zS_b5 hq, zS_b7 hq, zS_b9 hq, zS_b11 hq, gU_row, hrow]
      refine fin _ (fun l => ?_) (fun e => ?_) (fun g => ?_) (fun a h1 h2 h3 => ?_)
      · rw [gU_row (by omega), gU_row (by omega), gU_rw, hrow _ (by omega)]
      · rw [gU_row (by omega), gU_rw]
        by_cases he : e = (b 3).2 i 2
        · exact (by rw [if_pos he, he]; exact if_pos rfl)
        · simp only [if_neg he]
          rw [gU_row (by omega), hrow _ (by omega)]
      · rw [gU_rw]
        by_cases hg2 : g = (b 3).2 i 0
        · exact (by rw [if_pos ⟨hg2, by omega, hk0⟩, hg2]; exact if_pos rfl)
        · simp only [if_neg hg2]
          rw [if_neg (fun h => hg2 h.1), gU_row (by omega), gU_row (by omega), hrow _ (by omega)]
      · rw [gU_row h3, gU_row h2, gU_row h1]
end RECK2
