/-! THE REFERENCE: numbers that are to be ints; rows copied. -/
def mis (m : gM) (v : Int) : gM := if -2147483648 ≤ v ∧ v ≤ 2147483647 then m else gU m 213 5 1
def misv (m : gM) (v : Int) : Int := if mis m v 213 5 = 0 then v else 0
def JM (m : gM) (F Q : Prop) : Prop := (m 213 5 = 0 ∧ Q) ∨ (m 213 5 = 1 ∧ ¬ F)
theorem mis_row {m : gM} {v a : Int} (h : a ≠ 213) : mis m v a = m a := by
  unfold mis
  split
  · rfl
  · exact gU_row h
theorem mis_i {m : gM} {v i : Int} (h : i ≠ 5) : mis m v 213 i = m 213 i := by
  unfold mis
  split
  · rfl
  · exact gU_i h
theorem mis_ok {m : gM} {v : Int} (h : okI v) : mis m v = m := if_pos h
theorem JM_mono {m : gM} {F Q Q' : Prop} (h : JM m F Q) (hq : Q → Q') : JM m F Q' := by
  rcases h with ⟨h1, h2⟩ | h
  · exact Or.inl ⟨h1, hq h2⟩
  · exact Or.inr h
theorem JM_fr {m m' : gM} {F Q : Prop} (h : JM m F Q) (e : m' 213 5 = m 213 5) : JM m' F Q := by
  unfold JM
  rw [e]
  exact h
theorem JM_gU {m : gM} {a i v : Int} {F Q : Prop} (h : JM m F Q) (ha : (213 : Int) ≠ a ∨ (5 : Int) ≠ i) : JM (gU m a i v) F Q := by
  refine JM_fr h ?_
  rcases ha with ha | ha
  · rw [gU_row ha]
  · by_cases hb : (213 : Int) = a
    · subst hb
      exact gU_i ha
    · rw [gU_row hb]
theorem JM_is {m : gM} {x : Int} {F Q : Prop} (h : JM m F Q) (hx : Q → F → okI x) : JM (mis m x) F (Q ∧ okI x ∧ mis m x = m ∧ misv m x = x) := by
  by_cases ho : okI x
  · rw [mis_ok ho]
    rcases h with ⟨h1, h2⟩ | h
    · refine Or.inl ⟨h1, h2, ho, rfl, ?_⟩
      unfold misv
      rw [mis_ok ho, if_pos h1]
    · exact Or.inr h
  · have e : mis m x = gU m 213 5 1 := if_neg ho
    refine Or.inr ⟨by rw [e, gU_same], ?_⟩
    rcases h with ⟨_, h2⟩ | h
    · exact fun hf => ho (hx h2 hf)
    · exact h.2
section MODEL2
variable {L d N : Nat} {z X Y q r v t c g j k e o u x y : Int} {w : gW} {m : gM} {K : Option gV → gW → gM → Prop} {b b' : Bk} {xs s : Int → Int} {F Q : Prop} {n : Nat}
theorem m_is [NeZero (z % 2)] : C (d + 1) M_X8_is [(2, 213), (1, x)] (w0 L z X Y) m K = K (some (1, misv m x)) (w0 L z X Y) (mis m x) := by
  unfold misv mis
  by_cases h1 : -2147483648 ≤ x ∧ x ≤ 2147483647
  · by_cases h0 : m 213 5 = 0
    · simp (disch := first | assumption | omega | (simp (disch := omega) only [gU_row, gU_same, gU_i, gCp_row] <;> omega)) only [e_X8_is, s_X8_is_0, s_X8_is_1, s_X8_is_4, s_X8_is_5, s_X8_is_8, s_X8_is_9, s_X8_is_12, s_X8_is_13, s_X8_is_16, s_X8_is_17, s_X8_is_18, s_X8_is_21, s_X8_is_22, s_X8_is_25, s_X8_is_28, s_X8_is_29, s_X8_is_32, s_X8_is_33, ↓reduceIte, Option.toList_some, Option.toList_none, List.cons_append, List.nil_append, List.singleton_append, List.append_nil, true_and, and_true, true_or, or_true, andT, iteT, iteF, itT, itF, zS_213, zP_213_0, zP_213_1, zP_213_2, zP_213_3, zP_213_6, zP_213_7, zP_213_8, zP_213_9, zP_213_10, zP_213_11, zP_213_12, zP_213_13, zP_213_14, zP_213_15, zP_213_16, zP_213_17, zP_213_18, zP_213_19, zP_213_20, zP_213_21, zP_213_22, zP_213_23, zP_213_24, zP_213_32, zP_213_33, zP_213_34, zP_213_38, zP_213_39, zP_213_40, zP_213_41, zS_214, zS_215, zS_216, zS_217, zS_218, zS_219, zS_220, zS_221, zS_222, zS_223, zS_224, zS_225, zS_226, zS_227, zS_228, zS_229, zS_230, zS_231, zS_232, zS_233, zS_234, zS_235, zS_236, zS_237, zS_238, zS_239, zS_240, zS_241, zS_242, zS_243, lcmp_lt, lcmp_le, h0, ne_eq, not_true_eq_false]
    · simp (disch := first | assumption | omega | (simp (disch := omega) only [gU_row, gU_same, gU_i, gCp_row] <;> omega)) only [e_X8_is, s_X8_is_0, s_X8_is_1, s_X8_is_4, s_X8_is_5, s_X8_is_8, s_X8_is_9, s_X8_is_12, s_X8_is_13, s_X8_is_16, s_X8_is_17, s_X8_is_18, s_X8_is_21, s_X8_is_22, s_X8_is_25, s_X8_is_28, s_X8_is_29, s_X8_is_32, s_X8_is_33, ↓reduceIte, Option.toList_some, Option.toList_none, List.cons_append, List.nil_append, List.singleton_append, List.append_nil, true_and, and_true, true_or, or_true, andT, iteT, iteF, itT, itF, zS_213, zP_213_0, zP_213_1, zP_213_2, zP_213_3, zP_213_6, zP_213_7, zP_213_8, zP_213_9, zP_213_10, zP_213_11, zP_213_12, zP_213_13, zP_213_14, zP_213_15, zP_213_16, zP_213_17, zP_213_18, zP_213_19, zP_213_20, zP_213_21, zP_213_22, zP_213_23, zP_213_24, zP_213_32, zP_213_33, zP_213_34, zP_213_38, zP_213_39, zP_213_40, zP_213_41, zS_214, zS_215, zS_216, zS_217, zS_218, zS_219, zS_220, zS_221, zS_222, zS_223, zS_224, zS_225, zS_226, zS_227, zS_228, zS_229, zS_230, zS_231, zS_232, zS_233, zS_234, zS_235, zS_236, zS_237, zS_238, zS_239, zS_240, zS_241, zS_242, zS_243, lcmp_lt, lcmp_le, h0, ne_eq, not_false_eq_true]
  · by_cases h2 : x < -2147483648
    · simp (disch := first | assumption | omega | (simp (disch := omega) only [gU_row, gU_same, gU_i, gCp_row] <;> omega)) only [e_X8_is, s_X8_is_0, s_X8_is_1, s_X8_is_4, s_X8_is_5, s_X8_is_8, s_X8_is_9, s_X8_is_12, s_X8_is_13, s_X8_is_16, s_X8_is_17, s_X8_is_18, s_X8_is_21, s_X8_is_22, s_X8_is_25, s_X8_is_28, s_X8_is_29, s_X8_is_32, s_X8_is_33, ↓reduceIte, Option.toList_some, Option.toList_none, List.cons_append, List.nil_append, List.singleton_append, List.append_nil, true_and, and_true, true_or, or_true, andT, iteT, iteF, itT, itF, zS_213, zP_213_0, zP_213_1, zP_213_2, zP_213_3, zP_213_6, zP_213_7, zP_213_8, zP_213_9, zP_213_10, zP_213_11, zP_213_12, zP_213_13, zP_213_14, zP_213_15, zP_213_16, zP_213_17, zP_213_18, zP_213_19, zP_213_20, zP_213_21, zP_213_22, zP_213_23, zP_213_24, zP_213_32, zP_213_33, zP_213_34, zP_213_38, zP_213_39, zP_213_40, zP_213_41, zS_214, zS_215, zS_216, zS_217, zS_218, zS_219, zS_220, zS_221, zS_222, zS_223, zS_224, zS_225, zS_226, zS_227, zS_228, zS_229, zS_230, zS_231, zS_232, zS_233, zS_234, zS_235, zS_236, zS_237, zS_238, zS_239, zS_240, zS_241, zS_242, zS_243, lcmp_lt, lcmp_le, gU_same, ne_eq, not_false_eq_true]
    · simp (disch := first | assumption | omega | (simp (disch := omega) only [gU_row, gU_same, gU_i, gCp_row] <;> omega)) only [e_X8_is, s_X8_is_0, s_X8_is_1, s_X8_is_4, s_X8_is_5, s_X8_is_8, s_X8_is_9, s_X8_is_12, s_X8_is_13, s_X8_is_16, s_X8_is_17, s_X8_is_18, s_X8_is_21, s_X8_is_22, s_X8_is_25, s_X8_is_28, s_X8_is_29, s_X8_is_32, s_X8_is_33, ↓reduceIte, Option.toList_some, Option.toList_none, List.cons_append, List.nil_append, List.singleton_append, List.append_nil, true_and, and_true, true_or, or_true, andT, iteT, iteF, itT, itF, zS_213, zP_213_0, zP_213_1, zP_213_2, zP_213_3, zP_213_6, zP_213_7, zP_213_8, zP_213_9, zP_213_10, zP_213_11, zP_213_12, zP_213_13, zP_213_14, zP_213_15, zP_213_16, zP_213_17, zP_213_18, zP_213_19, zP_213_20, zP_213_21, zP_213_22, zP_213_23, zP_213_24, zP_213_32, zP_213_33, zP_213_34, zP_213_38, zP_213_39, zP_213_40, zP_213_41, zS_214, zS_215, zS_216, zS_217, zS_218, zS_219, zS_220, zS_221, zS_222, zS_223, zS_224, zS_225, zS_226, zS_227, zS_228, zS_229, zS_230, zS_231, zS_232, zS_233, zS_234, zS_235, zS_236, zS_237, zS_238, zS_239, zS_240, zS_241, zS_242, zS_243, lcmp_lt, lcmp_le, gU_same, ne_eq, not_false_eq_true]
set_option maxHeartbeats 400000 in
theorem m_copies [NeZero (z % 2)] {p : Int} (hv : v = 214 ∨ v = 215 ∨ v = 216 ∨ v = 217) (hp : p = 214 ∨ p = 215 ∨ p = 216 ∨ p = 217) (hk : ∀ m', (∀ a, a ≠ p → m' a = m a) → (∀ i, 0 ≤ i → i < 239 → m' p i = m v i) → K none (w0 L z X Y) m') : C (d + 1) M_X8_copies [(2, v), (2, p)] (w0 L z X Y) m K := by
  have sv : wS (w0 L z X Y) v = (101, 239) := by rcases hv with rfl | rfl | rfl | rfl <;> first | exact zS_214 | exact zS_215 | exact zS_216 | exact zS_217
  have sp : wS (w0 L z X Y) p = (101, 239) := by rcases hp with rfl | rfl | rfl | rfl <;> first | exact zS_214 | exact zS_215 | exact zS_216 | exact zS_217
  simp (disch := first | assumption | omega | (simp (disch := omega) only [gU_row, gU_same, gU_i, gCp_row] <;> omega)) only [e_X8_copies, s_X8_copies_0, s_X8_copies_1, s_X8_copies_3, s_X8_copies_4, s_X8_copies_5, s_X8_copies_8, s_X8_copies_9, s_X8_copies_10, s_X8_copies_11, s_X8_copies_12, s_X8_copies_13, s_X8_copies_14, s_X8_copies_17, s_X8_copies_20, ↓reduceIte, Option.toList_some, Option.toList_none, List.cons_append, List.nil_append, List.singleton_append, List.append_nil, true_and, and_true, true_or, or_true, andT, iteT, iteF, itT, itF]
  refine R_for0 239 (fun i ls m' => ls = [(2, v), (2, p), (0, (i : Int))] ∧ (∀ a, a ≠ p → m' a = m a) ∧ (∀ j, 0 ≤ j → j < 239 → m' p j = if j < (i : Int) then m v j else m p j)) ⟨rfl, fun _ _ => rfl, fun j h0 _ => by rw [if_neg (by omega)]⟩ ?_ ?_
  · rintro i ls m1 hi ⟨rfl, f1, f2⟩ hn
    rw [s_X8_copies_2]
    simp (disch := first | assumption | omega | (simp (disch := omega) only [gU_row, gU_same, gU_i, gCp_row] <;> omega)) only [e_X8_copies, s_X8_copies_0, s_X8_copies_1, s_X8_copies_3, s_X8_copies_4, s_X8_copies_5, s_X8_copies_8, s_X8_copies_9, s_X8_copies_10, s_X8_copies_11, s_X8_copies_12, s_X8_copies_13, s_X8_copies_14, s_X8_copies_17, s_X8_copies_20, ↓reduceIte, Option.toList_some, Option.toList_none, List.cons_append, List.nil_append, List.singleton_append, List.append_nil, true_and, and_true, true_or, or_true, andT, iteT, iteF, itT, itF, sv, sp, iadd_ok]
    have ev : m1 v i = m v i := by
      by_cases hvp : v = p
      · subst hvp
        rw [f2 i (by omega) (by omega), if_neg (by omega)]
      · rw [f1 v hvp]
    rw [ev]
    refine hn _ _ ⟨rfl, fun a ha => by rw [gU_row ha, f1 a ha], fun j j0 j1 => ?_⟩
    by_cases hj : j = i
    · subst hj
      rw [gU_same, if_pos (by omega)]
    · rw [gU_i hj, f2 j j0 j1]
      by_cases hj2 : j < (i : Int)
      · rw [if_pos hj2, if_pos (by omega)]
      · rw [if_neg hj2, if_neg (by omega)]
  · rintro ls m1 ⟨rfl, f1, f2⟩
    rw [s_X8_copies_2]
    simp (disch := first | assumption | omega | (simp (disch := omega) only [gU_row, gU_same, gU_i, gCp_row] <;> omega)) only [e_X8_copies, s_X8_copies_0, s_X8_copies_1, s_X8_copies_3, s_X8_copies_4, s_X8_copies_5, s_X8_copies_8, s_X8_copies_9, s_X8_copies_10, s_X8_copies_11, s_X8_copies_12, s_X8_copies_13, s_X8_copies_14, s_X8_copies_17, s_X8_copies_20, ↓reduceIte, Option.toList_some, Option.toList_none, List.cons_append, List.nil_append, List.singleton_append, List.append_nil, true_and, and_true, true_or, or_true, andT, iteT, iteF, itT, itF, sv, sp]
    exact hk _ f1 (fun i i0 i1 => by rw [f2 i i0 i1, if_pos (by omega)])
end MODEL2
