/-! THE CONSTRUCTORS of the class, of the reference. -/
def tp0 : T3 := (fun _ => -1, fun _ => 0, fun _ _ => 0)
def tx0 : TX := (0, fun _ => 0)
section INI4
variable {L d N a b kd k n : Nat} {z q t c i v x y r s g j : Int} {w W W1 W2 W3 : gW} {m m' M m1 m2 m3 : gM} {K : Option gV → gW → gM → Prop} {xs : Int → Int}
theorem BK_ext {bb : Bk} (h : BK m q bb) (f : ∀ a, q < a → a ≤ q + 12 → m' a = m a) : BK m' q bb := by
  have e1 := f (q + 1) (by omega) (by omega)
  have e2 := f (q + 2) (by omega) (by omega)
  have e3 := f (q + 3) (by omega) (by omega)
  have e4 := f (q + 4) (by omega) (by omega)
  have e5 := f (q + 5) (by omega) (by omega)
  have e6 := f (q + 6) (by omega) (by omega)
  have e7 := f (q + 7) (by omega) (by omega)
  have e8 := f (q + 8) (by omega) (by omega)
  have e9 := f (q + 9) (by omega) (by omega)
  have e10 := f (q + 10) (by omega) (by omega)
  have e11 := f (q + 11) (by omega) (by omega)
  have e12 := f (q + 12) (by omega) (by omega)
  obtain ⟨h1, h2⟩ := h
  refine ⟨?_, ?_⟩
  · unfold TBs
    rw [e1, e3, e5, e7, e9, e11]
    exact h1
  · rw [← h2]
    refine bk_ext ?_ ?_ ?_ ?_ ?_ ?_ (fun t ht => by rw [absB_6 ht, absB_6 ht])
    · rw [absB_0, absB_0, e1, e2]
    · rw [absB_1, absB_1, e3, e4]
    · rw [absB_2, absB_2, e5, e6]
    · rw [absB_3, absB_3, e7, e8]
    · rw [absB_4, absB_4, e9, e10]
    · rw [absB_5, absB_5, e11, e12]
theorem fin7w (h1 : W1 = wR (oRk 1) (wNew (wNew (wE L z) 7 7) 3 16)) (h2 : W2 = wR (oRk 88) (wNew (wPut W1 0 0 1) 3 16)) (h3 : W3 = wR (oBk 175) (wNew (wPut W2 0 1 88) 0 6)) (hW : W = wR tlB (wR tlA W3)) : W = w0 L (2 * z) 1 88 := by
  rw [← wE_X7, oX7, wR_app, wR_app, wR_app, wR_app, wR_app, wR_app, wR_app, hW, h3, h2, h1]
  rfl
theorem fin7 (hst : St xs m) (h1 : W1 = wR (oRk 1) (wNew (wNew (wE L z) 7 7) 3 16)) (h2 : W2 = wR (oRk 88) (wNew (wPut W1 0 0 1) 3 16)) (h3 : W3 = wR (oBk 175) (wNew (wPut W2 0 1 88) 0 6)) (b1 : BK m1 2 bk0) (b2 : BK m2 89 bk0) (b3 : BK m3 175 bk0) (f1 : ∀ a, a < 0 → m1 a = m a) (f2 : ∀ a, a < 88 → m2 a = m1 a) (f3 : ∀ a, a < 175 → m3 a = m2 a) (hk : ∀ m', CI xs m' 1 88 bk0 bk0 → m' 0 3 = 0 → TPc m' tp0 → TXc m' tx0 → K none (w0 L (2 * z) 1 88) m') (hW : W = wR tlB (wR tlA W3)) (g1 : ∀ a, a < 0 ∨ (0 < a ∧ a < 188) → M a = m3 a) (g2 : M 0 3 = 0) (g3 : M 188 0 = 0) (g4 : ∀ t, 0 ≤ t → t < 6 → M 203 t = -1 ∧ M 211 t = 0 ∧ ∀ i, M (205 + t) i = 0) : R (d + 19) M_X7_init 72 [(2, 0)] [] W M K := by
  have hW' := fin7w h1 h2 h3 hW
  clear hW h1 h2 h3
  subst hW'
  have hr1 : RB 1 := Or.inl rfl
  have hb : BK M (1 + 1) bk0 := BK_ext (m := m1) b1 (fun a a0 a1 => by rw [g1 a (by omega), f3 a (by omega), f2 a (by omega)])
  have hb2 : BK M 89 bk0 := BK_ext b2 (fun a a0 a1 => by rw [g1 a (by omega), f3 a (by omega)])
  have hb3 : BK M 175 bk0 := BK_ext b3 (fun a a0 a1 => by rw [g1 a (by omega)])
  rw [s_X7_init_72]
  simp (disch := first | assumption | omega | (simp (disch := omega) only [gU_row, gU_same, gU_i, gCp_row] <;> omega)) only [e_X7_init, s_X7_init_0, s_X7_init_1, s_X7_init_4, s_X7_init_5, s_X7_init_8, s_X7_init_9, s_X7_init_12, s_X7_init_15, s_X7_init_16, s_X7_init_19, s_X7_init_20, s_X7_init_23, s_X7_init_26, s_X7_init_27, s_X7_init_30, s_X7_init_31, s_X7_init_34, s_X7_init_37, s_X7_init_38, s_X7_init_39, s_X7_init_42, s_X7_init_43, s_X7_init_46, s_X7_init_47, s_X7_init_50, s_X7_init_53, s_X7_init_54, s_X7_init_57, s_X7_init_58, s_X7_init_61, s_X7_init_64, s_X7_init_65, s_X7_init_67, s_X7_init_69, s_X7_init_72, s_X7_init_73, s_X7_init_76, s_X7_init_79, s_X7_init_80, ↓reduceIte, Option.toList_some, Option.toList_none, List.cons_append, List.nil_append, List.singleton_append, List.append_nil, true_and, and_true, true_or, or_true, andT, iteT, iteF, itT, itF, zS_0, zP_0_0, zP_0_1, zP_0_2, zP_0_4, zP_0_5, zP_0_6, zS_r0 hr1]
  refine c_reckon hr1 hb bk0_G bk0_M bk0_O bk0_L bk0_Q (fun _ m4 f4 d4 => ?_) (fun h => absurd bk0_F h)
  simp (disch := first | assumption | omega | (simp (disch := omega) only [gU_row, gU_same, gU_i, gCp_row] <;> omega)) only [e_X7_init, s_X7_init_0, s_X7_init_1, s_X7_init_4, s_X7_init_5, s_X7_init_8, s_X7_init_9, s_X7_init_12, s_X7_init_15, s_X7_init_16, s_X7_init_19, s_X7_init_20, s_X7_init_23, s_X7_init_26, s_X7_init_27, s_X7_init_30, s_X7_init_31, s_X7_init_34, s_X7_init_37, s_X7_init_38, s_X7_init_39, s_X7_init_42, s_X7_init_43, s_X7_init_46, s_X7_init_47, s_X7_init_50, s_X7_init_53, s_X7_init_54, s_X7_init_57, s_X7_init_58, s_X7_init_61, s_X7_init_64, s_X7_init_65, s_X7_init_67, s_X7_init_69, s_X7_init_72, s_X7_init_73, s_X7_init_76, s_X7_init_79, s_X7_init_80, ↓reduceIte, Option.toList_some, Option.toList_none, List.cons_append, List.nil_append, List.singleton_append, List.append_nil, true_and, and_true, true_or, or_true, andT, iteT, iteF, itT, itF, zS_0, zP_0_0, zP_0_1, zP_0_2, zP_0_4, zP_0_5, zP_0_6]
  refine hk m4 ⟨⟨Or.inl rfl, Or.inr rfl, by omega⟩, BK_fr hb f4 (by omega), ⟨bk0, BK_fr hb2 f4 (by omega)⟩, BK_fr hb3 f4 (by omega), d4, fun a ha => by rw [f4 a (by omega), g1 a (by omega), f3 a (by omega), f2 a (by omega), f1 a ha]; exact hst a ha⟩ (by rw [f4 0 (by omega)]; exact g2) (fun t t0 t1 => ?_) ⟨by rw [f4 188 (by omega)]; exact g3, fun i i0 i1 => absurd i1 (by show ¬ i < 0; omega)⟩
  obtain ⟨u1, u2, u3⟩ := g4 t t0 t1
  exact ⟨by rw [f4 203 (by omega)]; exact u1, by rw [f4 211 (by omega)]; exact u2, fun i _ _ => by rw [f4 _ (by omega)]; exact u3 i⟩
-- stages
theorem sA_X4_14 (hx : 0 ≤ x) (hxt : x < t) (hw : (w.1 : Int) = t) (hs : (wS w x).1 = 4) : R (d + 1) M_X4_init 14 [(2, x)] [] w m K = R (d + 1) M_X4_init 22 [(2, x)] [] (wAl w 100 10 x 2 t) (mNew w m) K := by
  unfold wAl
  rw [s_X4_init_14]
  simp (disch := first | assumption | omega | (simp (disch := omega) only [gU_row, gU_same, gU_i, gCp_row] <;> omega)) only [e_X4_init, s_X4_init_0, s_X4_init_1, s_X4_init_4, s_X4_init_5, s_X4_init_6, s_X4_init_9, s_X4_init_10, s_X4_init_11, s_X4_init_14, s_X4_init_15, s_X4_init_17, s_X4_init_19, s_X4_init_23, s_X4_init_25, s_X4_init_27, s_X4_init_31, s_X4_init_34, s_X4_init_35, s_X4_init_37, s_X4_init_39, s_X4_init_42, s_X4_init_43, s_X4_init_44, s_X4_init_47, ↓reduceIte, Option.toList_some, Option.toList_none, List.cons_append, List.nil_append, List.singleton_append, List.append_nil, true_and, and_true, true_or, or_true, andT, iteT, iteF, itT, itF, wNew_1, wPut_1, wGrid_1, wS_new, wS_grid, wS_pt, hw, hs]
  try rfl
theorem sA_X4_22 (hx : 0 ≤ x) (hxt : x < t) (hw : (w.1 : Int) = t) (hs : (wS w x).1 = 4) : R (d + 1) M_X4_init 22 [(2, x)] [] w m K = R (d + 1) M_X4_init 34 [(2, x)] [] (wGr w 100 10 6 x 3 t) (mGrid w m 10) K := by
  unfold wGr
  rw [s_X4_init_22]
  simp (disch := first | assumption | omega | (simp (disch := omega) only [gU_row, gU_same, gU_i, gCp_row] <;> omega)) only [e_X4_init, s_X4_init_0, s_X4_init_1, s_X4_init_4, s_X4_init_5, s_X4_init_6, s_X4_init_9, s_X4_init_10, s_X4_init_11, s_X4_init_14, s_X4_init_15, s_X4_init_17, s_X4_init_19, s_X4_init_22, s_X4_init_23, s_X4_init_25, s_X4_init_27, s_X4_init_31, s_X4_init_35, s_X4_init_37, s_X4_init_39, s_X4_init_42, s_X4_init_43, s_X4_init_44, s_X4_init_47, ↓reduceIte, Option.toList_some, Option.toList_none, List.cons_append, List.nil_append, List.singleton_append, List.append_nil, true_and, and_true, true_or, or_true, andT, iteT, iteF, itT, itF, wNew_1, wPut_1, wGrid_1, wS_new, wS_grid, wS_pt, hw, hs]
  try rfl
theorem sA_X4_34 (hx : 0 ≤ x) (hxt : x < t) (hw : (w.1 : Int) = t) (hs : (wS w x).1 = 4) : R (d + 1) M_X4_init 34 [(2, x)] [] w m K = R (d + 1) M_X4_init 42 [(2, x)] [] (wAl w 100 100 x 4 t) (mNew w m) K := by
  unfold wAl
  rw [s_X4_init_34]
  simp (disch := first | assumption | omega | (simp (disch := omega) only [gU_row, gU_same, gU_i, gCp_row] <;> omega)) only [e_X4_init, s_X4_init_0, s_X4_init_1, s_X4_init_4, s_X4_init_5, s_X4_init_6, s_X4_init_9, s_X4_init_10, s_X4_init_11, s_X4_init_14, s_X4_init_15, s_X4_init_17, s_X4_init_19, s_X4_init_22, s_X4_init_23, s_X4_init_25, s_X4_init_27, s_X4_init_31, s_X4_init_34, s_X4_init_35, s_X4_init_37, s_X4_init_39, s_X4_init_43, s_X4_init_44, s_X4_init_47, ↓reduceIte, Option.toList_some, Option.toList_none, List.cons_append, List.nil_append, List.singleton_append, List.append_nil, true_and, and_true, true_or, or_true, andT, iteT, iteF, itT, itF, wNew_1, wPut_1, wGrid_1, wS_new, wS_grid, wS_pt, hw, hs]
  try rfl
theorem sA_X6_4 (hx : 0 ≤ x) (hxt : x < t) (hw : (w.1 : Int) = t) (hs : (wS w x).1 = 6) : R (d + 1) M_X6_init 4 [(2, x), (3, 0)] [] w m K = R (d + 1) M_X6_init 12 [(2, x), (3, 0)] [] (wAl w 100 6 x 0 t) (mNew w m) K := by
  unfold wAl
  rw [s_X6_init_4]
  simp (disch := first | assumption | omega | (simp (disch := omega) only [gU_row, gU_same, gU_i, gCp_row] <;> omega)) only [e_X6_init, s_X6_init_0, s_X6_init_1, s_X6_init_4, s_X6_init_5, s_X6_init_7, s_X6_init_9, s_X6_init_13, s_X6_init_15, s_X6_init_17, s_X6_init_21, s_X6_init_24, s_X6_init_25, s_X6_init_27, s_X6_init_29, s_X6_init_32, s_X6_init_33, s_X6_init_34, s_X6_init_35, s_X6_init_37, s_X6_init_40, s_X6_init_41, s_X6_init_44, s_X6_init_45, s_X6_init_46, s_X6_init_47, s_X6_init_50, s_X6_init_53, ↓reduceIte, Option.toList_some, Option.toList_none, List.cons_append, List.nil_append, List.singleton_append, List.append_nil, true_and, and_true, true_or, or_true, andT, iteT, iteF, itT, itF, wNew_1, wPut_1, wGrid_1, wS_new, wS_grid, wS_pt, hw, hs]
  try rfl
theorem sA_X6_12 (hx : 0 ≤ x) (hxt : x < t) (hw : (w.1 : Int) = t) (hs : (wS w x).1 = 6) : R (d + 1) M_X6_init 12 [(2, x), (3, 0)] [] w m K = R (d + 1) M_X6_init 24 [(2, x), (3, 0)] [] (wGr w 101 6 60 x 1 t) (mGrid w m 6) K := by
  unfold wGr
  rw [s_X6_init_12]
  simp (disch := first | assumption | omega | (simp (disch := omega) only [gU_row, gU_same, gU_i, gCp_row] <;> omega)) only [e_X6_init, s_X6_init_0, s_X6_init_1, s_X6_init_4, s_X6_init_5, s_X6_init_7, s_X6_init_9, s_X6_init_12, s_X6_init_13, s_X6_init_15, s_X6_init_17, s_X6_init_21, s_X6_init_25, s_X6_init_27, s_X6_init_29, s_X6_init_32, s_X6_init_33, s_X6_init_34, s_X6_init_35, s_X6_init_37, s_X6_init_40, s_X6_init_41, s_X6_init_44, s_X6_init_45, s_X6_init_46, s_X6_init_47, s_X6_init_50, s_X6_init_53, ↓reduceIte, Option.toList_some, Option.toList_none, List.cons_append, List.nil_append, List.singleton_append, List.append_nil, true_and, and_true, true_or, or_true, andT, iteT, iteF, itT, itF, wNew_1, wPut_1, wGrid_1, wS_new, wS_grid, wS_pt, hw, hs]
  try rfl
theorem sA_X6_24 (hx : 0 ≤ x) (hxt : x < t) (hw : (w.1 : Int) = t) (hs : (wS w x).1 = 6) : R (d + 1) M_X6_init 24 [(2, x), (3, 0)] [] w m K = R (d + 1) M_X6_init 32 [(2, x), (3, 0)] [] (wAl w 100 6 x 2 t) (mNew w m) K := by
  unfold wAl
  rw [s_X6_init_24]
  simp (disch := first | assumption | omega | (simp (disch := omega) only [gU_row, gU_same, gU_i, gCp_row] <;> omega)) only [e_X6_init, s_X6_init_0, s_X6_init_1, s_X6_init_4, s_X6_init_5, s_X6_init_7, s_X6_init_9, s_X6_init_12, s_X6_init_13, s_X6_init_15, s_X6_init_17, s_X6_init_21, s_X6_init_24, s_X6_init_25, s_X6_init_27, s_X6_init_29, s_X6_init_33, s_X6_init_34, s_X6_init_35, s_X6_init_37, s_X6_init_40, s_X6_init_41, s_X6_init_44, s_X6_init_45, s_X6_init_46, s_X6_init_47, s_X6_init_50, s_X6_init_53, ↓reduceIte, Option.toList_some, Option.toList_none, List.cons_append, List.nil_append, List.singleton_append, List.append_nil, true_and, and_true, true_or, or_true, andT, iteT, iteF, itT, itF, wNew_1, wPut_1, wGrid_1, wS_new, wS_grid, wS_pt, hw, hs]
  try rfl
def tl4 : List WO := [.inr (.inr (188, 4, 201)), .inl (201, 100, 100), .inr (.inr (188, 3, 190)), .inr (.inl (190, 100, 10, 6)), .inr (.inr (188, 2, 189)), .inl (189, 100, 10)]
def tl6 : List WO := [.inr (.inr (202, 2, 211)), .inl (211, 100, 6), .inr (.inr (202, 1, 204)), .inr (.inl (204, 101, 6, 60)), .inr (.inr (202, 0, 203)), .inl (203, 100, 6)]
theorem i_X4 (hw : (w.1 : Int) = 189) (hs : (wS w 188).1 = 4) (hk : ∀ m' w', w' = wR tl4 w → (w'.1 : Int) = 202 → (∀ a, a < 188 → m' a = m a) → m' 188 0 = 0 → K none w' m') : C (d + 2) M_X4_init [(2, 188)] w m K := by
  simp (disch := first | assumption | omega | (simp (disch := omega) only [gU_row, gU_same, gU_i, gCp_row] <;> omega)) only [e_X4_init, s_X4_init_0, s_X4_init_1, s_X4_init_4, s_X4_init_5, s_X4_init_6, s_X4_init_9, s_X4_init_10, s_X4_init_11, s_X4_init_15, s_X4_init_17, s_X4_init_19, s_X4_init_22, s_X4_init_23, s_X4_init_25, s_X4_init_27, s_X4_init_31, s_X4_init_34, s_X4_init_35, s_X4_init_37, s_X4_init_39, s_X4_init_42, s_X4_init_43, s_X4_init_44, s_X4_init_47, ↓reduceIte, Option.toList_some, Option.toList_none, List.cons_append, List.nil_append, List.singleton_append, List.append_nil, true_and, and_true, true_or, or_true, andT, iteT, iteF, itT, itF, hs]
  have q1 : gU (gU m 188 0 0) 188 1 0 188 0 = 0 := by rw [gU_ne (by omega), gU_same]
  have q2 : ∀ a, a < 188 → gU (gU m 188 0 0) 188 1 0 a = m a := fun a h => by rw [gU_row (by omega), gU_row (by omega)]
  generalize gU (gU m 188 0 0) 188 1 0 = m1 at *
  have q : ∀ M : gM, (∀ a, a < 189 → M a = m1 a) → ∀ w', w' = wR tl4 w → (w'.1 : Int) = 202 → (wS w' 188).1 = 4 → R (d + 1) M_X4_init 42 [(2, 188)] [] w' M K := by
    intro M hM w' hw' hc' hs'
    rw [s_X4_init_42]
    simp (disch := first | assumption | omega | (simp (disch := omega) only [gU_row, gU_same, gU_i, gCp_row] <;> omega)) only [e_X4_init, s_X4_init_0, s_X4_init_1, s_X4_init_4, s_X4_init_5, s_X4_init_6, s_X4_init_9, s_X4_init_10, s_X4_init_11, s_X4_init_14, s_X4_init_15, s_X4_init_17, s_X4_init_19, s_X4_init_22, s_X4_init_23, s_X4_init_25, s_X4_init_27, s_X4_init_31, s_X4_init_34, s_X4_init_35, s_X4_init_37, s_X4_init_39, s_X4_init_42, s_X4_init_43, s_X4_init_44, s_X4_init_47, ↓reduceIte, Option.toList_some, Option.toList_none, List.cons_append, List.nil_append, List.singleton_append, List.append_nil, true_and, and_true, true_or, or_true, andT, iteT, iteF, itT, itF, hs']
    exact hk _ _ hw' hc' (fun a h => by rw [gU_row (by omega), hM a (by omega)]; exact q2 a h) (by rw [gU_ne (by omega), hM 188 (by omega)]; exact q1)
  clear hk q1 q2
  have f1 : ∀ a, a < 189 → m1 a = m1 a := fun _ _ => rfl
  have z1 : ∀ a, 189 ≤ a → a < 189 → m1 a = fun _ => 0 := fun a h1 h2 => by omega
  have c_14 : ((wAl w 100 10 (188) 2 (189)).1 : Int) = 190 := by rw [wAl_1]; omega
  have s_14 : (wS (wAl w 100 10 (188) 2 (189)) (188)).1 = 4 := wAl_s (by omega) hs
  rw [sA_X4_14 (by omega) (by omega) hw hs]
  have f_14 : ∀ a, a < 189 → (mNew w m1) a = m1 a := fun a h => (mNew_ne (by rw [hw]; omega)).trans (f1 a h)
  have z_14 : ∀ a, 189 ≤ a → a < 190 → (mNew w m1) a = fun _ => 0 := fun a h1 h2 => by
    by_cases h : a = 189
    · exact mNew_eq (by rw [hw]; exact h)
    · exact (mNew_ne (by rw [hw]; omega)).trans (z1 a h1 (by omega))
  generalize hM_14 : mNew w m1 = M_14 at *
  generalize hW_14 : wAl w 100 10 (188) 2 (189) = W_14 at *
  clear hw hs f1 z1 hM_14
  have c_22 : ((wGr W_14 100 10 6 (188) 3 (190)).1 : Int) = 201 := by rw [wGr_1]; omega
  have s_22 : (wS (wGr W_14 100 10 6 (188) 3 (190)) (188)).1 = 4 := wGr_s (by omega) s_14
  rw [sA_X4_22 (by omega) (by omega) c_14 s_14]
  have f_22 : ∀ a, a < 189 → (mGrid W_14 M_14 10) a = m1 a := fun a h => (mGrid_ne (by rw [c_14]; omega)).trans (f_14 a h)
  have z_22 : ∀ a, 189 ≤ a → a < 201 → (mGrid W_14 M_14 10) a = fun _ => 0 := fun a h1 h2 => by
    by_cases h : 190 ≤ a
    · exact mGrid_eq (by rw [c_14]; omega)
    · exact (mGrid_ne (by rw [c_14]; omega)).trans (z_14 a h1 (by omega))
  generalize hM_22 : mGrid W_14 M_14 10 = M_22 at *
  generalize hW_22 : wGr W_14 100 10 6 (188) 3 (190) = W_22 at *
  clear c_14 s_14 f_14 z_14 hM_22
  have c_34 : ((wAl W_22 100 100 (188) 4 (201)).1 : Int) = 202 := by rw [wAl_1]; omega
  have s_34 : (wS (wAl W_22 100 100 (188) 4 (201)) (188)).1 = 4 := wAl_s (by omega) s_22
  rw [sA_X4_34 (by omega) (by omega) c_22 s_22]
  have f_34 : ∀ a, a < 189 → (mNew W_22 M_22) a = m1 a := fun a h => (mNew_ne (by rw [c_22]; omega)).trans (f_22 a h)
  have z_34 : ∀ a, 189 ≤ a → a < 202 → (mNew W_22 M_22) a = fun _ => 0 := fun a h1 h2 => by
    by_cases h : a = 201
    · exact mNew_eq (by rw [c_22]; exact h)
    · exact (mNew_ne (by rw [c_22]; omega)).trans (z_22 a h1 (by omega))
  generalize hM_34 : mNew W_22 M_22 = M_34 at *
  generalize hW_34 : wAl W_22 100 100 (188) 4 (201) = W_34 at *
  clear c_22 s_22 f_22 z_22 hM_34
  exact q _ f_34 _ (by rw [← hW_34, ← hW_22, ← hW_14]; rfl) c_34 s_34
theorem i_X6 (hw : (w.1 : Int) = 203) (hs : (wS w 202).1 = 6) (hk : ∀ m' w', w' = wR tl6 w → (w'.1 : Int) = 212 → (∀ a, a < 203 → m' a = m a) → (∀ t, 0 ≤ t → t < 6 → m' 203 t = -1 ∧ m' 211 t = 0 ∧ ∀ i, m' (205 + t) i = 0) → K none w' m') : C (d + 2) M_X6_init [(2, 202)] w m K := by
  have q : ∀ M : gM, (∀ a, a < 203 → M a = m a) → (∀ a, 203 ≤ a → a < 212 → M a = fun _ => 0) → ∀ w', w' = wR tl6 w → (w'.1 : Int) = 212 → (wS w' 202).1 = 6 → R (d + 1) M_X6_init 32 [(2, 202), (3, 0)] [] w' M K := by
    intro M hM hZ w' hw' hc' hs'
    have hk' := hk
    have p0 : wP w' 202 0 = 203 := by
      rw [hw']
      show (if (202 : Int) = 202 ∧ (0 : Int) = 2 then (211 : Int) else if (202 : Int) = (((w.1 + 1) + 1 + 6 : Nat) : Int) then -1 else if (202 : Int) = 202 ∧ (0 : Int) = 1 then 204 else if (202 : Int) = ((w.1 + 1 : Nat) : Int) then (if (0 : Int) ≤ 0 ∧ (0 : Int) < ((6 : Nat) : Int) then ((w.1 + 1 : Nat) : Int) + 1 + 0 else -1) else if ((w.1 + 1 : Nat) : Int) < 202 ∧ (202 : Int) ≤ ((w.1 + 1 : Nat) : Int) + ((6 : Nat) : Int) then -1 else if (202 : Int) = 202 ∧ (0 : Int) = 0 then 203 else (if (202 : Int) = (w.1 : Int) then -1 else wP w 202 0)) = 203
      rw [if_neg (by omega), if_neg (by omega), if_neg (by omega), if_neg (by omega), if_neg (by omega), if_pos (by omega)]
    have h3 : wS w' 203 = (100, 6) := by
      rw [hw']
      show (if (203 : Int) = (((w.1 + 1) + 1 + 6 : Nat) : Int) then ((100 : Nat), (6 : Nat)) else if (203 : Int) = ((w.1 + 1 : Nat) : Int) then (101 + 3, 6) else if ((w.1 + 1 : Nat) : Int) < 203 ∧ (203 : Int) ≤ ((w.1 + 1 : Nat) : Int) + ((6 : Nat) : Int) then (101, 60) else if (203 : Int) = (w.1 : Int) then (100, 6) else wS w 203) = (100, 6)
      rw [if_neg (by omega), if_neg (by omega), if_neg (by omega), if_pos (by omega)]
    have main : R (d + 1) M_X6_init 34 [(2, 202), (0, 0)] [] w' M K := by
      refine R_for0 6 (fun k ls mm => ls = [(2, 202), (0, (k : Int))] ∧ (∀ a, a ≠ 203 → mm a = M a) ∧ ∀ t : Int, 0 ≤ t → t < (k : Int) → mm 203 t = -1) ⟨rfl, fun _ _ => rfl, fun t t0 t1 => by omega⟩ ?_ ?_
      · rintro k ls mm hk1 ⟨rfl, g1, g2⟩ hn
        rw [s_X6_init_34]
        simp (disch := first | assumption | omega | (simp (disch := omega) only [gU_row, gU_same, gU_i, gCp_row] <;> omega)) only [e_X6_init, s_X6_init_0, s_X6_init_1, s_X6_init_4, s_X6_init_5, s_X6_init_7, s_X6_init_9, s_X6_init_12, s_X6_init_13, s_X6_init_15, s_X6_init_17, s_X6_init_21, s_X6_init_24, s_X6_init_25, s_X6_init_27, s_X6_init_29, s_X6_init_32, s_X6_init_33, s_X6_init_35, s_X6_init_37, s_X6_init_40, s_X6_init_41, s_X6_init_44, s_X6_init_45, s_X6_init_46, s_X6_init_47, s_X6_init_50, ↓reduceIte, Option.toList_some, Option.toList_none, List.cons_append, List.nil_append, List.singleton_append, List.append_nil, true_and, and_true, true_or, or_true, andT, iteT, iteF, itT, itF, hs', p0, h3, iadd_ok]
        refine hn _ _ ⟨by simp, fun a ha => by rw [gU_row ha]; exact g1 a ha, fun t t0 t1 => ?_⟩
        by_cases h : t = k
        · rw [h, gU_same]
        · rw [gU_ne (by omega)]; exact g2 t t0 (by omega)
      · rintro ls mm ⟨rfl, g1, g2⟩
        rw [s_X6_init_34]
        simp (disch := first | assumption | omega | (simp (disch := omega) only [gU_row, gU_same, gU_i, gCp_row] <;> omega)) only [e_X6_init, s_X6_init_0, s_X6_init_1, s_X6_init_4, s_X6_init_5, s_X6_init_7, s_X6_init_9, s_X6_init_12, s_X6_init_13, s_X6_init_15, s_X6_init_17, s_X6_init_21, s_X6_init_24, s_X6_init_25, s_X6_init_27, s_X6_init_29, s_X6_init_32, s_X6_init_33, s_X6_init_35, s_X6_init_37, s_X6_init_40, s_X6_init_41, s_X6_init_44, s_X6_init_45, s_X6_init_46, s_X6_init_47, s_X6_init_50, s_X6_init_53, ↓reduceIte, Option.toList_some, Option.toList_none, List.cons_append, List.nil_append, List.singleton_append, List.append_nil, true_and, and_true, true_or, or_true, andT, iteT, iteF, itT, itF, hs', p0, h3]
        refine hk' _ _ hw' hc' (fun a h => by rw [g1 a (by omega)]; exact hM a h) (fun t t0 t1 => ⟨g2 t t0 (by omega), ?_, fun i => ?_⟩)
        · rw [g1 211 (by omega), hZ 211 (by omega) (by omega)]
        · rw [g1 _ (by omega), hZ _ (by omega) (by omega)]
    rw [s_X6_init_32]
    simp (disch := first | assumption | omega | (simp (disch := omega) only [gU_row, gU_same, gU_i, gCp_row] <;> omega)) only [e_X6_init, s_X6_init_0, s_X6_init_1, s_X6_init_4, s_X6_init_5, s_X6_init_7, s_X6_init_9, s_X6_init_12, s_X6_init_13, s_X6_init_15, s_X6_init_17, s_X6_init_21, s_X6_init_24, s_X6_init_25, s_X6_init_27, s_X6_init_29, s_X6_init_32, s_X6_init_33, s_X6_init_35, s_X6_init_37, s_X6_init_40, s_X6_init_41, s_X6_init_44, s_X6_init_45, s_X6_init_46, s_X6_init_47, s_X6_init_50, s_X6_init_53, ↓reduceIte, Option.toList_some, Option.toList_none, List.cons_append, List.nil_append, List.singleton_append, List.append_nil, true_and, and_true, true_or, or_true, andT, iteT, iteF, itT, itF]
    exact main
  clear hk
  have f1 : ∀ a, a < 203 → m a = m a := fun _ _ => rfl
  have z1 : ∀ a, 203 ≤ a → a < 203 → m a = fun _ => 0 := fun a h1 h2 => by omega
  simp (disch := first | assumption | omega | (simp (disch := omega) only [gU_row, gU_same, gU_i, gCp_row] <;> omega)) only [e_X6_init, s_X6_init_0, s_X6_init_1, s_X6_init_5, s_X6_init_7, s_X6_init_9, s_X6_init_12, s_X6_init_13, s_X6_init_15, s_X6_init_17, s_X6_init_21, s_X6_init_24, s_X6_init_25, s_X6_init_27, s_X6_init_29, s_X6_init_32, s_X6_init_33, s_X6_init_34, s_X6_init_35, s_X6_init_37, s_X6_init_40, s_X6_init_41, s_X6_init_44, s_X6_init_45, s_X6_init_46, s_X6_init_47, s_X6_init_50, s_X6_init_53, ↓reduceIte, Option.toList_some, Option.toList_none, List.cons_append, List.nil_append, List.singleton_append, List.append_nil, true_and, and_true, true_or, or_true, andT, iteT, iteF, itT, itF]
  have c_4 : ((wAl w 100 6 (202) 0 (203)).1 : Int) = 204 := by rw [wAl_1]; omega
  have s_4 : (wS (wAl w 100 6 (202) 0 (203)) (202)).1 = 6 := wAl_s (by omega) hs
  rw [sA_X6_4 (by omega) (by omega) hw hs]
  have f_4 : ∀ a, a < 203 → (mNew w m) a = m a := fun a h => (mNew_ne (by rw [hw]; omega)).trans (f1 a h)
  have z_4 : ∀ a, 203 ≤ a → a < 204 → (mNew w m) a = fun _ => 0 := fun a h1 h2 => by
    by_cases h : a = 203
    · exact mNew_eq (by rw [hw]; exact h)
    · exact (mNew_ne (by rw [hw]; omega)).trans (z1 a h1 (by omega))
  generalize hM_4 : mNew w m = M_4 at *
  generalize hW_4 : wAl w 100 6 (202) 0 (203) = W_4 at *
  clear hw hs f1 z1 hM_4
  have c_12 : ((wGr W_4 101 6 60 (202) 1 (204)).1 : Int) = 211 := by rw [wGr_1]; omega
  have s_12 : (wS (wGr W_4 101 6 60 (202) 1 (204)) (202)).1 = 6 := wGr_s (by omega) s_4
  rw [sA_X6_12 (by omega) (by omega) c_4 s_4]
  have f_12 : ∀ a, a < 203 → (mGrid W_4 M_4 6) a = m a := fun a h => (mGrid_ne (by rw [c_4]; omega)).trans (f_4 a h)
  have z_12 : ∀ a, 203 ≤ a → a < 211 → (mGrid W_4 M_4 6) a = fun _ => 0 := fun a h1 h2 => by
    by_cases h : 204 ≤ a
    · exact mGrid_eq (by rw [c_4]; omega)
    · exact (mGrid_ne (by rw [c_4]; omega)).trans (z_4 a h1 (by omega))
  generalize hM_12 : mGrid W_4 M_4 6 = M_12 at *
  generalize hW_12 : wGr W_4 101 6 60 (202) 1 (204) = W_12 at *
  clear c_4 s_4 f_4 z_4 hM_12
  have c_24 : ((wAl W_12 100 6 (202) 2 (211)).1 : Int) = 212 := by rw [wAl_1]; omega
  have s_24 : (wS (wAl W_12 100 6 (202) 2 (211)) (202)).1 = 6 := wAl_s (by omega) s_12
  rw [sA_X6_24 (by omega) (by omega) c_12 s_12]
  have f_24 : ∀ a, a < 203 → (mNew W_12 M_12) a = m a := fun a h => (mNew_ne (by rw [c_12]; omega)).trans (f_12 a h)
  have z_24 : ∀ a, 203 ≤ a → a < 212 → (mNew W_12 M_12) a = fun _ => 0 := fun a h1 h2 => by
    by_cases h : a = 211
    · exact mNew_eq (by rw [c_12]; exact h)
    · exact (mNew_ne (by rw [c_12]; omega)).trans (z_12 a h1 (by omega))
  generalize hM_24 : mNew W_12 M_12 = M_24 at *
  generalize hW_24 : wAl W_12 100 6 (202) 2 (211) = W_24 at *
  clear c_12 s_12 f_12 z_12 hM_24
  exact q _ f_24 z_24 _ (by rw [← hW_24, ← hW_12, ← hW_4]; rfl) c_24 s_24
set_option maxHeartbeats 4000000 in
theorem i_X7 (hst : St xs m) (hk : ∀ m', CI xs m' 1 88 bk0 bk0 → m' 0 3 = 0 → TPc m' tp0 → TXc m' tx0 → K none (w0 L (2 * z) 1 88) m') : C (d + 20) M_X7_init [(2, 0)] (wNew (wE L z) 7 7) (mNew (wE L z) m) K := by
  have hw0 : ((wE L z).1 : Int) = 0 := rfl
  have s3 : wS (wE L z) (-3) = (100, 6) := rfl
  have e3 : ∀ i, m (-3) i = lk [100, 20, 1, 10, 2, 1] i := fun i => by rw [hst (-3) (by omega)]; rfl
  simp (disch := first | assumption | omega | (simp (disch := omega) only [gU_row, gU_same, gU_i, gCp_row] <;> omega)) only [e_X7_init, s_X7_init_0, s_X7_init_1, s_X7_init_4, s_X7_init_5, s_X7_init_8, s_X7_init_9, s_X7_init_12, s_X7_init_15, s_X7_init_16, s_X7_init_19, s_X7_init_20, s_X7_init_23, s_X7_init_26, s_X7_init_27, s_X7_init_30, s_X7_init_31, s_X7_init_34, s_X7_init_37, s_X7_init_38, s_X7_init_39, s_X7_init_42, s_X7_init_43, s_X7_init_46, s_X7_init_47, s_X7_init_50, s_X7_init_53, s_X7_init_54, s_X7_init_57, s_X7_init_58, s_X7_init_61, s_X7_init_64, s_X7_init_65, s_X7_init_67, s_X7_init_69, s_X7_init_73, s_X7_init_76, s_X7_init_79, s_X7_init_80, ↓reduceIte, Option.toList_some, Option.toList_none, List.cons_append, List.nil_append, List.singleton_append, List.append_nil, true_and, and_true, true_or, or_true, andT, iteT, iteF, itT, itF, wNew_1, wPut_1, wS_new, wS_pt, hw0]
  refine i_X3 (r := 1) (Or.inl rfl) (by rw [wNew_1, wNew_1]; omega) (by rw [wS_new, if_pos (by rw [wNew_1]; omega)]) (by rw [wS_new, if_neg (by rw [wNew_1, hw0]; omega), wS_new, if_neg (by rw [hw0]; omega)]; exact s3) (fun i => by rw [mNew_ne (by rw [wNew_1, hw0]; omega), mNew_ne (by rw [hw0]; omega)]; exact e3 i) (fun m1 W1 hW1 c1 b1 f1 => ?_)
  have n1 : (W1.1 : Int) = 88 := by omega
  have p1 : wS W1 0 = (7, 7) := by
    rw [hW1, wR_low (by rw [wNew_1, wNew_1, hw0]; omega), wS_new, if_neg (by rw [wNew_1, hw0]; omega), wS_new, if_pos (by rw [hw0])]
  have q1 : wS W1 (-3) = (100, 6) := by
    rw [hW1, wR_low (by rw [wNew_1, wNew_1, hw0]; omega), wS_new, if_neg (by rw [wNew_1, hw0]; omega), wS_new, if_neg (by rw [hw0]; omega)]
    exact s3
  have g1 : ∀ a, a < 0 → m1 a = m a := fun a ha => by
    rw [f1 a (by omega), mNew_ne (by rw [wNew_1, hw0]; omega), mNew_ne (by rw [hw0]; omega)]
  simp (disch := first | assumption | omega | (simp (disch := omega) only [gU_row, gU_same, gU_i, gCp_row] <;> omega)) only [e_X7_init, s_X7_init_0, s_X7_init_1, s_X7_init_4, s_X7_init_5, s_X7_init_8, s_X7_init_9, s_X7_init_12, s_X7_init_15, s_X7_init_16, s_X7_init_19, s_X7_init_20, s_X7_init_23, s_X7_init_26, s_X7_init_27, s_X7_init_30, s_X7_init_31, s_X7_init_34, s_X7_init_37, s_X7_init_38, s_X7_init_39, s_X7_init_42, s_X7_init_43, s_X7_init_46, s_X7_init_47, s_X7_init_50, s_X7_init_53, s_X7_init_54, s_X7_init_57, s_X7_init_58, s_X7_init_61, s_X7_init_64, s_X7_init_65, s_X7_init_67, s_X7_init_69, s_X7_init_73, s_X7_init_76, s_X7_init_79, s_X7_init_80, ↓reduceIte, Option.toList_some, Option.toList_none, List.cons_append, List.nil_append, List.singleton_append, List.append_nil, true_and, and_true, true_or, or_true, andT, iteT, iteF, itT, itF, wNew_1, wPut_1, wS_new, wS_pt, n1, p1]
  refine i_X3 (r := 88) (Or.inr rfl) (by rw [wNew_1, wPut_1]; omega) (by rw [wS_new, if_pos (by rw [wPut_1, n1])]) (by rw [wS_new, if_neg (by rw [wPut_1, n1]; omega), wS_pt]; exact q1) (fun i => by rw [mNew_ne (by rw [wPut_1, n1]; omega), g1 (-3) (by omega)]; exact e3 i) (fun m2 W2 hW2 c2 b2 f2 => ?_)
  have n2 : (W2.1 : Int) = 175 := by omega
  have p2 : wS W2 0 = (7, 7) := by
    rw [hW2, wR_low (by rw [wNew_1, wPut_1, n1]; omega), wS_new, if_neg (by rw [wPut_1, n1]; omega), wS_pt]
    exact p1
  have q2 : wS W2 (-3) = (100, 6) := by
    rw [hW2, wR_low (by rw [wNew_1, wPut_1, n1]; omega), wS_new, if_neg (by rw [wPut_1, n1]; omega), wS_pt]
    exact q1
  have g2 : ∀ a, a < 88 → m2 a = m1 a := fun a ha => by
    rw [f2 a (by omega), mNew_ne (by rw [wPut_1, n1]; omega)]
  simp (disch := first | assumption | omega | (simp (disch := omega) only [gU_row, gU_same, gU_i, gCp_row] <;> omega)) only [e_X7_init, s_X7_init_0, s_X7_init_1, s_X7_init_4, s_X7_init_5, s_X7_init_8, s_X7_init_9, s_X7_init_12, s_X7_init_15, s_X7_init_16, s_X7_init_19, s_X7_init_20, s_X7_init_23, s_X7_init_26, s_X7_init_27, s_X7_init_30, s_X7_init_31, s_X7_init_34, s_X7_init_37, s_X7_init_38, s_X7_init_39, s_X7_init_42, s_X7_init_43, s_X7_init_46, s_X7_init_47, s_X7_init_50, s_X7_init_53, s_X7_init_54, s_X7_init_57, s_X7_init_58, s_X7_init_61, s_X7_init_64, s_X7_init_65, s_X7_init_67, s_X7_init_69, s_X7_init_73, s_X7_init_76, s_X7_init_79, s_X7_init_80, ↓reduceIte, Option.toList_some, Option.toList_none, List.cons_append, List.nil_append, List.singleton_append, List.append_nil, true_and, and_true, true_or, or_true, andT, iteT, iteF, itT, itF, wNew_1, wPut_1, wS_new, wS_pt, n2, p2]
  refine i_X0 (q := 175) (Or.inr (Or.inr rfl)) (by rw [wNew_1, wPut_1]; omega) (by rw [wS_new, if_pos (by rw [wPut_1, n2])]) (by rw [wS_new, if_neg (by rw [wPut_1, n2]; omega), wS_pt]; exact q2) (fun i => by rw [mNew_ne (by rw [wPut_1, n2]; omega), g2 (-3) (by omega), g1 (-3) (by omega)]; exact e3 i) (fun m3 W3 hW3 c3 b3 f3 => ?_)
  have n3 : (W3.1 : Int) = 188 := by omega
  have p3 : wS W3 0 = (7, 7) := by
    rw [hW3, wR_low (by rw [wNew_1, wPut_1, n2]; omega), wS_new, if_neg (by rw [wPut_1, n2]; omega), wS_pt]
    exact p2
  have g3 : ∀ a, a < 175 → m3 a = m2 a := fun a ha => by
    rw [f3 a (by omega), mNew_ne (by rw [wPut_1, n2]; omega)]
  -- the end
  simp (disch := first | assumption | omega | (simp (disch := omega) only [gU_row, gU_same, gU_i, gCp_row] <;> omega)) only [e_X7_init, s_X7_init_0, s_X7_init_1, s_X7_init_4, s_X7_init_5, s_X7_init_8, s_X7_init_9, s_X7_init_12, s_X7_init_15, s_X7_init_16, s_X7_init_19, s_X7_init_20, s_X7_init_23, s_X7_init_26, s_X7_init_27, s_X7_init_30, s_X7_init_31, s_X7_init_34, s_X7_init_37, s_X7_init_38, s_X7_init_39, s_X7_init_42, s_X7_init_43, s_X7_init_46, s_X7_init_47, s_X7_init_50, s_X7_init_53, s_X7_init_54, s_X7_init_57, s_X7_init_58, s_X7_init_61, s_X7_init_64, s_X7_init_65, s_X7_init_67, s_X7_init_69, s_X7_init_73, s_X7_init_76, s_X7_init_79, s_X7_init_80, ↓reduceIte, Option.toList_some, Option.toList_none, List.cons_append, List.nil_append, List.singleton_append, List.append_nil, true_and, and_true, true_or, or_true, andT, iteT, iteF, itT, itF, wNew_1, wPut_1, wS_new, wS_pt, n3, p3]
  refine i_X4 (by rw [wNew_1, wPut_1]; omega) (by rw [wS_new, if_pos (by rw [wPut_1, n3])]) (fun m4 W4 hW4 c4 f4 z4 => ?_)
  have p4 : wS W4 0 = (7, 7) := by
    rw [hW4, wR_low (by rw [wNew_1, wPut_1, n3]; omega), wS_new, if_neg (by rw [wPut_1, n3]; omega), wS_pt]
    exact p3
  simp (disch := first | assumption | omega | (simp (disch := omega) only [gU_row, gU_same, gU_i, gCp_row] <;> omega)) only [e_X7_init, s_X7_init_0, s_X7_init_1, s_X7_init_4, s_X7_init_5, s_X7_init_8, s_X7_init_9, s_X7_init_12, s_X7_init_15, s_X7_init_16, s_X7_init_19, s_X7_init_20, s_X7_init_23, s_X7_init_26, s_X7_init_27, s_X7_init_30, s_X7_init_31, s_X7_init_34, s_X7_init_37, s_X7_init_38, s_X7_init_39, s_X7_init_42, s_X7_init_43, s_X7_init_46, s_X7_init_47, s_X7_init_50, s_X7_init_53, s_X7_init_54, s_X7_init_57, s_X7_init_58, s_X7_init_61, s_X7_init_64, s_X7_init_65, s_X7_init_67, s_X7_init_69, s_X7_init_73, s_X7_init_76, s_X7_init_79, s_X7_init_80, ↓reduceIte, Option.toList_some, Option.toList_none, List.cons_append, List.nil_append, List.singleton_append, List.append_nil, true_and, and_true, true_or, or_true, andT, iteT, iteF, itT, itF, wNew_1, wPut_1, wS_new, wS_pt, c4, p4]
  refine i_X6 (by rw [wNew_1, wPut_1]; omega) (by rw [wS_new, if_pos (by rw [wPut_1, c4])]) (fun m5 W5 hW5 c5 f5 z5 => ?_)
  have p5 : wS W5 0 = (7, 7) := by
    rw [hW5, wR_low (by rw [wNew_1, wPut_1, c4]; omega), wS_new, if_neg (by rw [wPut_1, c4]; omega), wS_pt]
    exact p4
  simp (disch := first | assumption | omega | (simp (disch := omega) only [gU_row, gU_same, gU_i, gCp_row] <;> omega)) only [e_X7_init, s_X7_init_0, s_X7_init_1, s_X7_init_4, s_X7_init_5, s_X7_init_8, s_X7_init_9, s_X7_init_12, s_X7_init_15, s_X7_init_16, s_X7_init_19, s_X7_init_20, s_X7_init_23, s_X7_init_26, s_X7_init_27, s_X7_init_30, s_X7_init_31, s_X7_init_34, s_X7_init_37, s_X7_init_38, s_X7_init_39, s_X7_init_42, s_X7_init_43, s_X7_init_46, s_X7_init_47, s_X7_init_50, s_X7_init_53, s_X7_init_54, s_X7_init_57, s_X7_init_58, s_X7_init_61, s_X7_init_64, s_X7_init_65, s_X7_init_67, s_X7_init_69, s_X7_init_73, s_X7_init_76, s_X7_init_79, s_X7_init_80, ↓reduceIte, Option.toList_some, Option.toList_none, List.cons_append, List.nil_append, List.singleton_append, List.append_nil, true_and, and_true, true_or, or_true, andT, iteT, iteF, itT, itF, wNew_1, wPut_1, wS_new, wS_pt, c5, p5]
  refine fin7 hst hW1 hW2 hW3 b1 b2 b3 g1 g2 g3 hk (by rw [hW5, hW4]; rfl) ?_ ?_ ?_ ?_
  · intro a ha
    rw [mNew_ne (by rw [wPut_1, c5]; omega), f5 a (by omega), mNew_ne (by rw [wPut_1, c4]; omega), f4 a (by omega), mNew_ne (by rw [wPut_1, n3]; omega), gU_row (by omega)]
  · rw [mNew_ne (by rw [wPut_1, c5]; omega), f5 0 (by omega), mNew_ne (by rw [wPut_1, c4]; omega), f4 0 (by omega), mNew_ne (by rw [wPut_1, n3]; omega), gU_same]
  · rw [mNew_ne (by rw [wPut_1, c5]; omega), f5 188 (by omega), mNew_ne (by rw [wPut_1, c4]; omega)]
    exact z4
  · intro t t0 t1
    obtain ⟨u1, u2, u3⟩ := z5 t t0 t1
    refine ⟨?_, ?_, fun i => ?_⟩
    · rw [mNew_ne (by rw [wPut_1, c5]; omega)]; exact u1
    · rw [mNew_ne (by rw [wPut_1, c5]; omega)]; exact u2
    · rw [mNew_ne (by rw [wPut_1, c5]; omega)]; exact u3 i
end INI4
