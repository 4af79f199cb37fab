/-! CREDITS: an offset is used; orders. -/
def tk (b : Bk) (x : Int → Int) (o t : Int) : Int → Int := fun g => if g = (b 2).2 o 0 then x g - t * (10 * (b 2).2 o 2) else if g = (b 2).2 o 1 then x g - t * (10 * (b 2).2 o 3) else x g
def pCr (b : Bk) (o t : Int) : Int := td (t * pPy b o * (b 2).2 o 5) 100
def CR (m : gM) (r : Int) (b : Bk) : Prop := m (r + 14) 0 = (b 2).1 ∧ ∀ o, 0 ≤ o → o < (b 2).1 → m (r + 19) o = (b 2).2 o 0 ∧ m (r + 20) o = (b 2).2 o 1 ∧ m (r + 21) o = 10 * (b 2).2 o 2 ∧ m (r + 22) o = 10 * (b 2).2 o 3 ∧ m (r + 24) o = (b 2).2 o 5 ∧ m (r + 25) o = pSu b o ∧ m (r + 23) o = pPy b o
def PB (b : Bk) : Prop := (0 ≤ (b 2).1 ∧ (b 2).1 ≤ 6) ∧ WfO b ∧ (∀ o, 0 ≤ o → o < (b 2).1 → OffOk b o) ∧ (∀ g, 0 ≤ g → g < 5 → 0 ≤ pPer b g ∧ pPer b g ≤ 2147483647) ∧ (∀ g, 0 ≤ g → g < 5 → 0 ≤ pX0 b g ∧ pX0 b g ≤ 2147483647)
def Xok (b : Bk) (x : Int → Int) : Prop := ∀ g, 0 ≤ g → g < 5 → 0 ≤ x g ∧ x g ≤ pX0 b g
def Ax (x y : Int → Int) : Prop := ∀ g, 0 ≤ g → g < 5 → x g = y g
section CRED2
variable {L d N : Nat} {z X Y q r v t c g j k e s o u : Int} {w : gW} {m : gM} {K : Option gV → gW → gM → Prop} {b b' : Bk} {xs x y : Int → Int} {F Q : Prop} {n : Nat}
theorem Ax_tm (h : Ax x y) (hO : WfO b) (o0 : 0 ≤ o) (o1 : o < (b 2).1) : pTm b x o = pTm b y o := by
  have a := hO o o0 o1
  unfold pTm
  rw [h _ a.1.1 a.1.2, h _ a.2.1.1 a.2.1.2]
theorem Ax_tk (h : Ax x y) : Ax (tk b x o t) (tk b y o t) := by
  intro g g0 g1
  unfold tk
  rw [h g g0 g1]
theorem Xok_0 (h : PB b) : Xok b (pX0 b) := fun g g0 g1 => ⟨(h.2.2.2.2 g g0 g1).1, Int.le_refl _⟩
theorem tm_bd (hP : PB b) (hx : Xok b x) (o0 : 0 ≤ o) (o1 : o < (b 2).1) : 0 ≤ pTm b x o ∧ pTm b x o ≤ pTm b (pX0 b) o ∧ pTm b (pX0 b) o ≤ 2147483647 := by
  have a := hP.2.1 o o0 o1
  have xa := hx _ a.1.1 a.1.2
  have xc := hx _ a.2.1.1 a.2.1.2
  have ba := hP.2.2.2.2 _ a.1.1 a.1.2
  unfold pTm
  by_cases hs : pSu b o = 1
  · rw [if_pos hs, if_pos hs]
    have d1 := div_bd (a := x ((b 2).2 o 0)) (b := 10 * (b 2).2 o 2) (by omega) xa.1
    have d2 := div_bd (a := x ((b 2).2 o 1)) (b := 10 * (b 2).2 o 3) (by omega) xc.1
    have d3 := div_bd (a := pX0 b ((b 2).2 o 0)) (b := 10 * (b 2).2 o 2) (by omega) ba.1
    have e1 := Int.ediv_le_ediv (c := 10 * (b 2).2 o 2) (by omega) xa.2
    have e2 := Int.ediv_le_ediv (c := 10 * (b 2).2 o 3) (by omega) xc.2
    omega
  · rw [if_neg hs, if_neg hs]
    omega
theorem pPy_bd (hP : PB b) (o0 : 0 ≤ o) (o1 : o < (b 2).1) : 0 ≤ pPy b o ∧ pPy b o ≤ 2147483647 := by
  have a := hP.2.1 o o0 o1
  have p1 := hP.2.2.2.1 _ a.1.1 a.1.2
  have p2 := hP.2.2.2.1 _ a.2.1.1 a.2.1.2
  have n1 := Int.mul_nonneg (a := (b 2).2 o 2) (b := pPer b ((b 2).2 o 0)) (by omega) p1.1
  have n2 := Int.mul_nonneg (a := (b 2).2 o 3) (b := pPer b ((b 2).2 o 1)) (by omega) p2.1
  unfold pPy
  by_cases hs : pSu b o = 1
  · rw [if_pos hs]
    have := (hP.2.2.1 o o0 o1 hs).2.2.1
    unfold okI at this
    unfold pPay at *
    omega
  · rw [if_neg hs]
    omega
theorem cr_bd (hP : PB b) (o0 : 0 ≤ o) (o1 : o < (b 2).1) (t0 : 0 ≤ t) (t1 : t ≤ pTm b (pX0 b) o) : (0 ≤ t * pPy b o ∧ t * pPy b o ≤ 2147483647) ∧ (0 ≤ t * pPy b o * (b 2).2 o 5 ∧ t * pPy b o * (b 2).2 o 5 ≤ 2147483647) ∧ 0 ≤ pCr b o t ∧ pCr b o t ≤ 21474837 := by
  have a := hP.2.1 o o0 o1
  have py := pPy_bd hP o0 o1
  have n1 := Int.mul_nonneg t0 py.1
  have n2 := Int.mul_nonneg n1 (show 0 ≤ (b 2).2 o 5 by omega)
  have l1 := Int.mul_le_mul_of_nonneg_right t1 py.1
  have l2 := Int.mul_le_mul_of_nonneg_right l1 (show 0 ≤ (b 2).2 o 5 by omega)
  have key : pTm b (pX0 b) o * pPy b o ≤ 2147483647 ∧ pTm b (pX0 b) o * pPy b o * (b 2).2 o 5 ≤ 2147483647 := by
    by_cases hs : pSu b o = 1
    · have h := hP.2.2.1 o o0 o1 hs
      have e : pPy b o = pPay b o := if_pos hs
      have h4 := h.2.2.2.1
      have h5 := h.2.2.2.2
      unfold okI at h4 h5
      rw [e]
      omega
    · have e : pPy b o = 0 := if_neg hs
      rw [e]
      simp
  refine ⟨⟨n1, by omega⟩, ⟨n2, by omega⟩, ?_⟩
  unfold pCr
  rw [td_nn n2]
  omega
theorem cr_mono (hP : PB b) (o0 : 0 ≤ o) (o1 : o < (b 2).1) (t0 : 0 ≤ t) (t1 : t ≤ s) (t2 : s ≤ pTm b (pX0 b) o) : pCr b o t ≤ pCr b o s := by
  have a := hP.2.1 o o0 o1
  have py := pPy_bd hP o0 o1
  have c1 := cr_bd hP o0 o1 t0 (by omega)
  have c2 := cr_bd hP o0 o1 (show 0 ≤ s by omega) t2
  have l1 := Int.mul_le_mul_of_nonneg_right t1 py.1
  have l2 := Int.mul_le_mul_of_nonneg_right l1 (show 0 ≤ (b 2).2 o 5 by omega)
  unfold pCr
  rw [td_nn c1.2.1.1, td_nn c2.2.1.1]
  exact Int.ediv_le_ediv (by omega) l2
theorem tk_ok (hP : PB b) (hx : Xok b x) (o0 : 0 ≤ o) (o1 : o < (b 2).1) : Xok b (tk b x o (pTm b x o)) := by
  intro g g0 g1
  have a := hP.2.1 o o0 o1
  have xg := hx g g0 g1
  have tb := tm_bd hP hx o0 o1
  unfold tk
  by_cases h1 : g = (b 2).2 o 0
  · rw [if_pos h1]
    have n1 := Int.mul_nonneg (a := pTm b x o) (b := 10 * (b 2).2 o 2) tb.1 (by omega)
    have l : pTm b x o * (10 * (b 2).2 o 2) ≤ x g := by
      by_cases hs : pSu b o = 1
      · have e : pTm b x o ≤ x ((b 2).2 o 0) / (10 * (b 2).2 o 2) := by unfold pTm; rw [if_pos hs]; omega
        have l1 := Int.mul_le_mul_of_nonneg_right e (show 0 ≤ 10 * (b 2).2 o 2 by omega)
        have l2 := Int.ediv_mul_le (x ((b 2).2 o 0)) (show 10 * (b 2).2 o 2 ≠ 0 by omega)
        rw [h1]
        omega
      · have e : pTm b x o = 0 := if_neg hs
        rw [e]
        omega
    omega
  · rw [if_neg h1]
    by_cases h2 : g = (b 2).2 o 1
    · rw [if_pos h2]
      have n1 := Int.mul_nonneg (a := pTm b x o) (b := 10 * (b 2).2 o 3) tb.1 (by omega)
      have l : pTm b x o * (10 * (b 2).2 o 3) ≤ x g := by
        by_cases hs : pSu b o = 1
        · have e : pTm b x o ≤ x ((b 2).2 o 1) / (10 * (b 2).2 o 3) := by unfold pTm; rw [if_pos hs]; omega
          have l1 := Int.mul_le_mul_of_nonneg_right e (show 0 ≤ 10 * (b 2).2 o 3 by omega)
          have l2 := Int.ediv_mul_le (x ((b 2).2 o 1)) (show 10 * (b 2).2 o 3 ≠ 0 by omega)
          rw [h2]
          omega
        · have e : pTm b x o = 0 := if_neg hs
          rw [e]
          omega
      omega
    · rw [if_neg h2]
      exact xg
theorem tk_undo : tk b (tk b x o t) o (-t) = x := by
  funext g
  unfold tk
  by_cases h1 : g = (b 2).2 o 0
  · rw [if_pos h1, if_pos h1, Int.neg_mul]
    omega
  · rw [if_neg h1, if_neg h1]
    by_cases h2 : g = (b 2).2 o 1
    · rw [if_pos h2, if_pos h2, Int.neg_mul]
      omega
    · rw [if_neg h2, if_neg h2]
theorem c_times (hr : RB r) (hC : CR m r b) (hP : PB b) (hx : Xok b (m (r + 28))) (o0 : 0 ≤ o) (o1 : o < (b 2).1) : C (d + 1) M_X1_timesOf [(2, r + 14), (0, o)] (w0 L z X Y) m K = K (some (1, pTm b (m (r + 28)) o)) (w0 L z X Y) m := by
  have a := hP.2.1 o o0 o1
  have c := hC.2 o o0 o1
  have xa := hx _ a.1.1 a.1.2
  have xc := hx _ a.2.1.1 a.2.1.2
  have ba := hP.2.2.2.2 _ a.1.1 a.1.2
  have bc := hP.2.2.2.2 _ a.2.1.1 a.2.1.2
  have hP1 := hP.1
  rw [c_timesR (u := 10 * (b 2).2 o 2) (v := 10 * (b 2).2 o 3) hr o0 (by omega) a.1.1 a.1.2 a.2.1.1 a.2.1.2 c.1 c.2.1 c.2.2.1 c.2.2.2.1 (by omega) (by omega)]
  congr 2
  rw [c.2.2.2.2.2.1]
  unfold pTm
  have hs : pSu b o = 0 ∨ pSu b o = 1 := by
    unfold pSu
    split
    · exact Or.inr rfl
    · exact Or.inl rfl
  rcases hs with hs | hs
  · rw [hs]
    rfl
  · rw [hs, if_neg (by omega), if_pos rfl, ldiv_lit (by omega) (by omega) (by omega) (by omega), ldiv_lit (by omega) (by omega) (by omega) (by omega), td_nn xa.1, td_nn xc.1, imin_eq]
theorem c_credit (hr : RB r) (hC : CR m r b) (hP : PB b) (o0 : 0 ≤ o) (o1 : o < (b 2).1) (t0 : 0 ≤ t) (t1 : t ≤ pTm b (pX0 b) o) : C (d + 1) M_X1_creditOf [(2, r + 14), (0, o), (1, t)] (w0 L z X Y) m K = K (some (1, pCr b o t)) (w0 L z X Y) m := by
  have c := hC.2 o o0 o1
  have hP1 := hP.1
  have cb := cr_bd hP o0 o1 t0 t1
  simp (disch := first | assumption | omega | (simp (disch := omega) only [gU_row, gU_same, gU_i, gCp_row] <;> omega)) only [e_X1_creditOf, s_X1_creditOf_0, s_X1_creditOf_1, s_X1_creditOf_2, s_X1_creditOf_5, s_X1_creditOf_6, s_X1_creditOf_7, s_X1_creditOf_8, s_X1_creditOf_9, s_X1_creditOf_12, s_X1_creditOf_13, s_X1_creditOf_14, s_X1_creditOf_15, s_X1_creditOf_16, s_X1_creditOf_19, s_X1_creditOf_20, ↓reduceIte, Option.toList_some, Option.toList_none, List.cons_append, List.nil_append, List.singleton_append, List.append_nil, true_and, and_true, true_or, or_true, andT, iteT, iteF, itT, itF, zS_r0 hr, zP_r0_0 hr, zP_r0_1 hr, zP_r0_2 hr, zP_r0_3 hr, zP_r0_4 hr, zP_r0_5 hr, zP_r0_6 hr, zP_r0_7 hr, zP_r0_8 hr, zP_r0_9 hr, zP_r0_10 hr, zP_r0_11 hr, zP_r0_12 hr, zP_r0_13 hr, zP_r0_14 hr, zP_r0_15 hr, zS_r14 hr, zP_r14_1 hr, zP_r14_2 hr, zP_r14_3 hr, zP_r14_4 hr, zP_r14_6 hr, zP_r14_7 hr, zP_r14_8 hr, zP_r14_9 hr, zP_r14_10 hr, zP_r14_11 hr, zP_r14_12 hr, zP_r14_13 hr, zP_r14_14 hr, zP_r14_15 hr, zS_r15 hr, zS_r16 hr, zS_r17 hr, zS_r18 hr, zS_r19 hr, zS_r20 hr, zS_r21 hr, zS_r22 hr, zS_r23 hr, zS_r24 hr, zS_r25 hr, zS_r26 hr, zS_r27 hr, zS_r28 hr, zS_r29 hr, zS_r54 hr, zS_r55 hr, zS_r61 hr, zS_r67 hr, zS_r68 hr, zS_r69 hr, zS_r70 hr, zS_r71 hr, zS_r72 hr, zS_r73 hr, zS_r79 hr, zS_r85 hr, zS_r86 hr, c.2.2.2.2.2.2, c.2.2.2.2.1, lmul_ok, ldiv_lit]
  rfl
theorem c_take (hr : RB r) (hC : CR m r b) (hP : PB b) (o0 : 0 ≤ o) (o1 : o < (b 2).1) (t0 : -2147483648 ≤ t) (t1 : t ≤ 2147483648) (hx : ∀ g, 0 ≤ g → g < 5 → -1000000000000 ≤ m (r + 28) g ∧ m (r + 28) g ≤ 1000000000000) (hk : ∀ m', Fr (r + 28) (r + 28) m m' → m' (r + 28) = tk b (m (r + 28)) o t → K none (w0 L z X Y) m') : C (d + 1) M_X1_take [(2, r + 14), (0, o), (1, t)] (w0 L z X Y) m K := by
  have hr0 : 1 ≤ r := by rcases hr with h | h <;> omega
  have a := hP.2.1 o o0 o1
  have c := hC.2 o o0 o1
  have hP1 := hP.1
  have xa := hx _ a.1.1 a.1.2
  have xc := hx _ a.2.1.1 a.2.1.2
  have b1 := mul_bd (a := t) (b := 10 * (b 2).2 o 2) 2147483648 90 (by omega) (by omega) (by omega) (by omega)
  have b2 := mul_bd (a := t) (b := 10 * (b 2).2 o 3) 2147483648 90 (by omega) (by omega) (by omega) (by omega)
  have hne := a.2.2.1
  simp (disch := first | assumption | omega | (simp (disch := omega) only [gU_row, gU_same, gU_i, gCp_row] <;> omega)) only [e_X1_take, s_X1_take_0, s_X1_take_1, s_X1_take_4, s_X1_take_5, s_X1_take_8, s_X1_take_9, s_X1_take_10, s_X1_take_11, s_X1_take_12, s_X1_take_13, s_X1_take_14, s_X1_take_17, s_X1_take_18, s_X1_take_19, s_X1_take_20, s_X1_take_21, s_X1_take_22, s_X1_take_23, s_X1_take_24, s_X1_take_27, s_X1_take_28, s_X1_take_31, s_X1_take_32, s_X1_take_33, s_X1_take_34, s_X1_take_35, s_X1_take_36, s_X1_take_37, s_X1_take_40, s_X1_take_41, s_X1_take_42, s_X1_take_43, s_X1_take_44, s_X1_take_45, s_X1_take_46, ↓reduceIte, Option.toList_some, Option.toList_none, List.cons_append, List.nil_append, List.singleton_append, List.append_nil, true_and, and_true, true_or, or_true, andT, iteT, iteF, itT, itF, zS_r0 hr, zP_r0_0 hr, zP_r0_1 hr, zP_r0_2 hr, zP_r0_3 hr, zP_r0_4 hr, zP_r0_5 hr, zP_r0_6 hr, zP_r0_7 hr, zP_r0_8 hr, zP_r0_9 hr, zP_r0_10 hr, zP_r0_11 hr, zP_r0_12 hr, zP_r0_13 hr, zP_r0_14 hr, zP_r0_15 hr, zS_r14 hr, zP_r14_1 hr, zP_r14_2 hr, zP_r14_3 hr, zP_r14_4 hr, zP_r14_6 hr, zP_r14_7 hr, zP_r14_8 hr, zP_r14_9 hr, zP_r14_10 hr, zP_r14_11 hr, zP_r14_12 hr, zP_r14_13 hr, zP_r14_14 hr, zP_r14_15 hr, zS_r15 hr, zS_r16 hr, zS_r17 hr, zS_r18 hr, zS_r19 hr, zS_r20 hr, zS_r21 hr, zS_r22 hr, zS_r23 hr, zS_r24 hr, zS_r25 hr, zS_r26 hr, zS_r27 hr, zS_r28 hr, zS_r29 hr, zS_r54 hr, zS_r55 hr, zS_r61 hr, zS_r67 hr, zS_r68 hr, zS_r69 hr, zS_r70 hr, zS_r71 hr, zS_r72 hr, zS_r73 hr, zS_r79 hr, zS_r85 hr, zS_r86 hr, c.1, c.2.1, c.2.2.1, c.2.2.2.1, lmul_ok, lsub_ok, gU_row, gU_i]
  refine hk _ (fun a ha => by rw [gU_row (by omega), gU_row (by omega)]) ?_
  funext g
  unfold tk
  rw [gU_rw]
  by_cases h2 : g = (b 2).2 o 1
  · subst h2
    simp (disch := omega) only [↓reduceIte, itF]
  · simp only [if_neg h2]
    rw [gU_rw]
    by_cases h1 : g = (b 2).2 o 0
    · subst h1
      simp only [↓reduceIte]
    · simp only [if_neg h1]
end CRED2
