/-! THE FIRST BOOK is fine; the constructor of a Reckoning. -/
theorem bk0_e {g c : Int} (g0 : 0 ≤ g) (g1 : g < 5) (c0 : 0 ≤ c) (c1 : c < 6) : (bk0 0).2 g c = lk [100, 20, 1, 10, 2, 1] c := if_pos ⟨g0, g1, c0, c1⟩
theorem bk0_G : WfG bk0 := fun g g0 g1 => by
  rw [bk0_e g0 g1 (by omega) (by omega), bk0_e g0 g1 (by omega) (by omega), bk0_e g0 g1 (by omega) (by omega), bk0_e g0 g1 (by omega) (by omega), bk0_e g0 g1 (by omega) (by omega), bk0_e g0 g1 (by omega) (by omega)]
  decide
theorem no0 {t : Nat} {j : Int} {p : Prop} (ht : (bk0 t).1 = 0) (h0 : 0 ≤ j) (h1 : j < (bk0 t).1) : p := by
  rw [ht] at h1
  omega
theorem bk0_M : WfM bk0 := fun _ h0 h1 => no0 (t := 1) rfl h0 h1
theorem bk0_O : WfO bk0 := fun _ h0 h1 => no0 (t := 2) rfl h0 h1
theorem bk0_L : WfL bk0 := fun _ h0 h1 => no0 (t := 3) rfl h0 h1
theorem bk0_Q : WfQ bk0 := fun _ h0 h1 => no0 (t := 3) rfl h0 h1
theorem bk0_ch : ChOk 2 (fun _ => 0) := by
  have h : ∀ k : Fin 5, ∀ e : Fin 5, e.val < 5 - k.val → (-2147483648 ≤ pm (chA 2 (fun _ => 0) k.val e.val).1 e.val (e.val + (k.val + 1)) * 2 ∧ pm (chA 2 (fun _ => 0) k.val e.val).1 e.val (e.val + (k.val + 1)) * 2 ≤ 2147483647) ∧ (-2147483648 ≤ pm (chA 2 (fun _ => 0) k.val e.val).1 e.val (e.val + (k.val + 1)) * 2 * (k.val + 1) ∧ pm (chA 2 (fun _ => 0) k.val e.val).1 e.val (e.val + (k.val + 1)) * 2 * (k.val + 1) ≤ 2147483647) := by decide +kernel
  refine ⟨fun k e hk he => h ⟨k, hk⟩ ⟨e, by omega⟩ he, ?_⟩
  have h2 : -2147483648 ≤ (chO 2 (fun _ => 0) 5).2 ∧ (chO 2 (fun _ => 0) 5).2 ≤ 2147483647 := by decide +kernel
  exact h2
theorem bk0_F : Fine bk0 := by
  have xf : ∀ g, pDBT bk0 g = fun _ => 0 := fun g => funext fun _ => rfl
  have ch0 : (chO 2 (fun _ => 0) 5).2 = 0 := by decide +kernel
  have e4 : ∀ g, 0 ≤ g → g < 5 → (bk0 0).2 g 4 = 2 := fun g g0 g1 => by rw [bk0_e g0 g1 (by omega) (by omega)]; rfl
  have ec : ∀ g, 0 ≤ g → g < 5 → pCh bk0 g = 0 := fun g g0 g1 => by
    show (chO ((bk0 0).2 g 4) (pDBT bk0 g) 5).2 = 0
    rw [e4 g g0 g1, xf]
    exact ch0
  have es : ∀ g, pScan bk0 g = 0 := fun _ => rfl
  have ed : ∀ g, pDel bk0 g = 0 := fun _ => rfl
  have et : ∀ g, pShT bk0 g = 0 := fun _ => rfl
  have k0 : okI 0 := ⟨by omega, by omega⟩
  have ess : pScansN bk0 5 = 0 := rfl
  have ecs : pChsN bk0 5 = 0 := by
    show 0 + pCh bk0 0 + pCh bk0 1 + pCh bk0 2 + pCh bk0 3 + pCh bk0 4 = 0
    rw [ec 0 (by omega) (by omega), ec 1 (by omega) (by omega), ec 2 (by omega) (by omega), ec 3 (by omega) (by omega), ec 4 (by omega) (by omega)]
    rfl
  have efl : pFlN bk0 5 = 0 := by
    show 0 + pShT bk0 0 * _ + pShT bk0 1 * _ + pShT bk0 2 * _ + pShT bk0 3 * _ + pShT bk0 4 * _ = 0
    rw [et, et, et, et, et]
    omega
  refine Fine_mk ⟨by decide, by decide⟩ bk0_G bk0_O bk0_Q (fun _ h0 h1 => no0 (t := 3) rfl h0 h1) (fun g g0 g1 => ⟨fun _ h0 h1 => no0 (t := 1) rfl h0 h1, fun e e0 e1 => k0, k0, k0, ?_, k0⟩) ⟨fun g g0 g1 => ?_, ?_, ?_, ?_, ?_, fun _ h0 h1 => no0 (t := 1) rfl h0 h1⟩ (fun _ h0 h1 => no0 (t := 2) rfl h0 h1)
  · rw [e4 g g0 g1, xf]; exact bk0_ch
  · rw [et, Int.zero_mul]; exact k0
  · exact k0
  · rw [ecs]; exact k0
  · rw [efl]; exact k0
  · rw [ess, ecs]; exact k0
theorem bk0_GB : GB bk0 := ⟨⟨⟨bk0_G, bk0_M, bk0_O, bk0_L, fun _ h0 h1 => no0 (t := 5) rfl h0 h1⟩, fun _ h0 h1 => no0 (t := 1) rfl h0 h1, fun _ h0 h1 => no0 (t := 3) rfl h0 h1, fun _ h0 h1 => no0 (t := 4) rfl h0 h1, fun _ h0 h1 => no0 (t := 5) rfl h0 h1⟩, bk0_F⟩
section INI2
variable {L d N a b kd k n : Nat} {z q t c i v x y r s g j : Int} {w W W1 : gW} {m m' M m1 : gM} {K : Option gV → gW → gM → Prop} {xs : Int → Int}
theorem c24 : ((24 : Nat) : Int) = 24 := rfl
theorem c5 : ((5 : Nat) : Int) = 5 := rfl
theorem c6 : ((6 : Nat) : Int) = 6 := rfl
theorem c10 : ((10 : Nat) : Int) = 10 := rfl
-- stages
theorem sA_X1_4 (hx : 0 ≤ x) (hxt : x < t) (hw : (w.1 : Int) = t) (hs : (wS w x).1 = 1) : R (d + 1) M_X1_init 4 [(2, x)] [] w m K = R (d + 1) M_X1_init 12 [(2, x)] [] (wAl w 100 6 x 1 t) (mNew w m) K := by
  unfold wAl
  rw [s_X1_init_4]
  simp (disch := first | assumption | omega | (simp (disch := omega) only [gU_row, gU_same, gU_i, gCp_row] <;> omega)) only [e_X1_init, s_X1_init_0, s_X1_init_1, s_X1_init_4, s_X1_init_5, s_X1_init_7, s_X1_init_9, s_X1_init_13, s_X1_init_15, s_X1_init_17, s_X1_init_20, s_X1_init_21, s_X1_init_23, s_X1_init_25, s_X1_init_28, s_X1_init_29, s_X1_init_31, s_X1_init_33, s_X1_init_36, s_X1_init_37, s_X1_init_39, s_X1_init_41, s_X1_init_44, s_X1_init_45, s_X1_init_47, s_X1_init_49, s_X1_init_52, s_X1_init_53, s_X1_init_55, s_X1_init_57, s_X1_init_60, s_X1_init_61, s_X1_init_63, s_X1_init_65, s_X1_init_68, s_X1_init_69, s_X1_init_71, s_X1_init_73, s_X1_init_76, s_X1_init_77, s_X1_init_79, s_X1_init_81, s_X1_init_84, s_X1_init_85, s_X1_init_87, s_X1_init_89, s_X1_init_92, s_X1_init_93, s_X1_init_95, s_X1_init_97, s_X1_init_100, s_X1_init_101, s_X1_init_102, s_X1_init_104, s_X1_init_107, s_X1_init_108, s_X1_init_109, s_X1_init_111, s_X1_init_114, ↓reduceIte, Option.toList_some, Option.toList_none, List.cons_append, List.nil_append, List.singleton_append, List.append_nil, true_and, and_true, true_or, or_true, andT, iteT, iteF, itT, itF, wNew_1, wPut_1, wGrid_1, wS_new, wS_grid, wS_pt, hw, hs]
  try rfl
theorem sA_X1_12 (hx : 0 ≤ x) (hxt : x < t) (hw : (w.1 : Int) = t) (hs : (wS w x).1 = 1) : R (d + 1) M_X1_init 12 [(2, x)] [] w m K = R (d + 1) M_X1_init 20 [(2, x)] [] (wAl w 100 6 x 2 t) (mNew w m) K := by
  unfold wAl
  rw [s_X1_init_12]
  simp (disch := first | assumption | omega | (simp (disch := omega) only [gU_row, gU_same, gU_i, gCp_row] <;> omega)) only [e_X1_init, s_X1_init_0, s_X1_init_1, s_X1_init_4, s_X1_init_5, s_X1_init_7, s_X1_init_9, s_X1_init_12, s_X1_init_13, s_X1_init_15, s_X1_init_17, s_X1_init_21, s_X1_init_23, s_X1_init_25, s_X1_init_28, s_X1_init_29, s_X1_init_31, s_X1_init_33, s_X1_init_36, s_X1_init_37, s_X1_init_39, s_X1_init_41, s_X1_init_44, s_X1_init_45, s_X1_init_47, s_X1_init_49, s_X1_init_52, s_X1_init_53, s_X1_init_55, s_X1_init_57, s_X1_init_60, s_X1_init_61, s_X1_init_63, s_X1_init_65, s_X1_init_68, s_X1_init_69, s_X1_init_71, s_X1_init_73, s_X1_init_76, s_X1_init_77, s_X1_init_79, s_X1_init_81, s_X1_init_84, s_X1_init_85, s_X1_init_87, s_X1_init_89, s_X1_init_92, s_X1_init_93, s_X1_init_95, s_X1_init_97, s_X1_init_100, s_X1_init_101, s_X1_init_102, s_X1_init_104, s_X1_init_107, s_X1_init_108, s_X1_init_109, s_X1_init_111, s_X1_init_114, ↓reduceIte, Option.toList_some, Option.toList_none, List.cons_append, List.nil_append, List.singleton_append, List.append_nil, true_and, and_true, true_or, or_true, andT, iteT, iteF, itT, itF, wNew_1, wPut_1, wGrid_1, wS_new, wS_grid, wS_pt, hw, hs]
  try rfl
theorem sA_X1_20 (hx : 0 ≤ x) (hxt : x < t) (hw : (w.1 : Int) = t) (hs : (wS w x).1 = 1) : R (d + 1) M_X1_init 20 [(2, x)] [] w m K = R (d + 1) M_X1_init 28 [(2, x)] [] (wAl w 100 6 x 3 t) (mNew w m) K := by
  unfold wAl
  rw [s_X1_init_20]
  simp (disch := first | assumption | omega | (simp (disch := omega) only [gU_row, gU_same, gU_i, gCp_row] <;> omega)) only [e_X1_init, s_X1_init_0, s_X1_init_1, s_X1_init_4, s_X1_init_5, s_X1_init_7, s_X1_init_9, s_X1_init_12, s_X1_init_13, s_X1_init_15, s_X1_init_17, s_X1_init_20, s_X1_init_21, s_X1_init_23, s_X1_init_25, s_X1_init_29, s_X1_init_31, s_X1_init_33, s_X1_init_36, s_X1_init_37, s_X1_init_39, s_X1_init_41, s_X1_init_44, s_X1_init_45, s_X1_init_47, s_X1_init_49, s_X1_init_52, s_X1_init_53, s_X1_init_55, s_X1_init_57, s_X1_init_60, s_X1_init_61, s_X1_init_63, s_X1_init_65, s_X1_init_68, s_X1_init_69, s_X1_init_71, s_X1_init_73, s_X1_init_76, s_X1_init_77, s_X1_init_79, s_X1_init_81, s_X1_init_84, s_X1_init_85, s_X1_init_87, s_X1_init_89, s_X1_init_92, s_X1_init_93, s_X1_init_95, s_X1_init_97, s_X1_init_100, s_X1_init_101, s_X1_init_102, s_X1_init_104, s_X1_init_107, s_X1_init_108, s_X1_init_109, s_X1_init_111, s_X1_init_114, ↓reduceIte, Option.toList_some, Option.toList_none, List.cons_append, List.nil_append, List.singleton_append, List.append_nil, true_and, and_true, true_or, or_true, andT, iteT, iteF, itT, itF, wNew_1, wPut_1, wGrid_1, wS_new, wS_grid, wS_pt, hw, hs]
  try rfl
theorem sA_X1_28 (hx : 0 ≤ x) (hxt : x < t) (hw : (w.1 : Int) = t) (hs : (wS w x).1 = 1) : R (d + 1) M_X1_init 28 [(2, x)] [] w m K = R (d + 1) M_X1_init 36 [(2, x)] [] (wAl w 101 6 x 4 t) (mNew w m) K := by
  unfold wAl
  rw [s_X1_init_28]
  simp (disch := first | assumption | omega | (simp (disch := omega) only [gU_row, gU_same, gU_i, gCp_row] <;> omega)) only [e_X1_init, s_X1_init_0, s_X1_init_1, s_X1_init_4, s_X1_init_5, s_X1_init_7, s_X1_init_9, s_X1_init_12, s_X1_init_13, s_X1_init_15, s_X1_init_17, s_X1_init_20, s_X1_init_21, s_X1_init_23, s_X1_init_25, s_X1_init_28, s_X1_init_29, s_X1_init_31, s_X1_init_33, s_X1_init_37, s_X1_init_39, s_X1_init_41, s_X1_init_44, s_X1_init_45, s_X1_init_47, s_X1_init_49, s_X1_init_52, s_X1_init_53, s_X1_init_55, s_X1_init_57, s_X1_init_60, s_X1_init_61, s_X1_init_63, s_X1_init_65, s_X1_init_68, s_X1_init_69, s_X1_init_71, s_X1_init_73, s_X1_init_76, s_X1_init_77, s_X1_init_79, s_X1_init_81, s_X1_init_84, s_X1_init_85, s_X1_init_87, s_X1_init_89, s_X1_init_92, s_X1_init_93, s_X1_init_95, s_X1_init_97, s_X1_init_100, s_X1_init_101, s_X1_init_102, s_X1_init_104, s_X1_init_107, s_X1_init_108, s_X1_init_109, s_X1_init_111, s_X1_init_114, ↓reduceIte, Option.toList_some, Option.toList_none, List.cons_append, List.nil_append, List.singleton_append, List.append_nil, true_and, and_true, true_or, or_true, andT, iteT, iteF, itT, itF, wNew_1, wPut_1, wGrid_1, wS_new, wS_grid, wS_pt, hw, hs]
  try rfl
theorem sA_X1_36 (hx : 0 ≤ x) (hxt : x < t) (hw : (w.1 : Int) = t) (hs : (wS w x).1 = 1) : R (d + 1) M_X1_init 36 [(2, x)] [] w m K = R (d + 1) M_X1_init 44 [(2, x)] [] (wAl w 100 6 x 6 t) (mNew w m) K := by
  unfold wAl
  rw [s_X1_init_36]
  simp (disch := first | assumption | omega | (simp (disch := omega) only [gU_row, gU_same, gU_i, gCp_row] <;> omega)) only [e_X1_init, s_X1_init_0, s_X1_init_1, s_X1_init_4, s_X1_init_5, s_X1_init_7, s_X1_init_9, s_X1_init_12, s_X1_init_13, s_X1_init_15, s_X1_init_17, s_X1_init_20, s_X1_init_21, s_X1_init_23, s_X1_init_25, s_X1_init_28, s_X1_init_29, s_X1_init_31, s_X1_init_33, s_X1_init_36, s_X1_init_37, s_X1_init_39, s_X1_init_41, s_X1_init_45, s_X1_init_47, s_X1_init_49, s_X1_init_52, s_X1_init_53, s_X1_init_55, s_X1_init_57, s_X1_init_60, s_X1_init_61, s_X1_init_63, s_X1_init_65, s_X1_init_68, s_X1_init_69, s_X1_init_71, s_X1_init_73, s_X1_init_76, s_X1_init_77, s_X1_init_79, s_X1_init_81, s_X1_init_84, s_X1_init_85, s_X1_init_87, s_X1_init_89, s_X1_init_92, s_X1_init_93, s_X1_init_95, s_X1_init_97, s_X1_init_100, s_X1_init_101, s_X1_init_102, s_X1_init_104, s_X1_init_107, s_X1_init_108, s_X1_init_109, s_X1_init_111, s_X1_init_114, ↓reduceIte, Option.toList_some, Option.toList_none, List.cons_append, List.nil_append, List.singleton_append, List.append_nil, true_and, and_true, true_or, or_true, andT, iteT, iteF, itT, itF, wNew_1, wPut_1, wGrid_1, wS_new, wS_grid, wS_pt, hw, hs]
  try rfl
theorem sA_X1_44 (hx : 0 ≤ x) (hxt : x < t) (hw : (w.1 : Int) = t) (hs : (wS w x).1 = 1) : R (d + 1) M_X1_init 44 [(2, x)] [] w m K = R (d + 1) M_X1_init 52 [(2, x)] [] (wAl w 100 6 x 7 t) (mNew w m) K := by
  unfold wAl
  rw [s_X1_init_44]
  simp (disch := first | assumption | omega | (simp (disch := omega) only [gU_row, gU_same, gU_i, gCp_row] <;> omega)) only [e_X1_init, s_X1_init_0, s_X1_init_1, s_X1_init_4, s_X1_init_5, s_X1_init_7, s_X1_init_9, s_X1_init_12, s_X1_init_13, s_X1_init_15, s_X1_init_17, s_X1_init_20, s_X1_init_21, s_X1_init_23, s_X1_init_25, s_X1_init_28, s_X1_init_29, s_X1_init_31, s_X1_init_33, s_X1_init_36, s_X1_init_37, s_X1_init_39, s_X1_init_41, s_X1_init_44, s_X1_init_45, s_X1_init_47, s_X1_init_49, s_X1_init_53, s_X1_init_55, s_X1_init_57, s_X1_init_60, s_X1_init_61, s_X1_init_63, s_X1_init_65, s_X1_init_68, s_X1_init_69, s_X1_init_71, s_X1_init_73, s_X1_init_76, s_X1_init_77, s_X1_init_79, s_X1_init_81, s_X1_init_84, s_X1_init_85, s_X1_init_87, s_X1_init_89, s_X1_init_92, s_X1_init_93, s_X1_init_95, s_X1_init_97, s_X1_init_100, s_X1_init_101, s_X1_init_102, s_X1_init_104, s_X1_init_107, s_X1_init_108, s_X1_init_109, s_X1_init_111, s_X1_init_114, ↓reduceIte, Option.toList_some, Option.toList_none, List.cons_append, List.nil_append, List.singleton_append, List.append_nil, true_and, and_true, true_or, or_true, andT, iteT, iteF, itT, itF, wNew_1, wPut_1, wGrid_1, wS_new, wS_grid, wS_pt, hw, hs]
  try rfl
theorem sA_X1_52 (hx : 0 ≤ x) (hxt : x < t) (hw : (w.1 : Int) = t) (hs : (wS w x).1 = 1) : R (d + 1) M_X1_init 52 [(2, x)] [] w m K = R (d + 1) M_X1_init 60 [(2, x)] [] (wAl w 100 6 x 8 t) (mNew w m) K := by
  unfold wAl
  rw [s_X1_init_52]
  simp (disch := first | assumption | omega | (simp (disch := omega) only [gU_row, gU_same, gU_i, gCp_row] <;> omega)) only [e_X1_init, s_X1_init_0, s_X1_init_1, s_X1_init_4, s_X1_init_5, s_X1_init_7, s_X1_init_9, s_X1_init_12, s_X1_init_13, s_X1_init_15, s_X1_init_17, s_X1_init_20, s_X1_init_21, s_X1_init_23, s_X1_init_25, s_X1_init_28, s_X1_init_29, s_X1_init_31, s_X1_init_33, s_X1_init_36, s_X1_init_37, s_X1_init_39, s_X1_init_41, s_X1_init_44, s_X1_init_45, s_X1_init_47, s_X1_init_49, s_X1_init_52, s_X1_init_53, s_X1_init_55, s_X1_init_57, s_X1_init_61, s_X1_init_63, s_X1_init_65, s_X1_init_68, s_X1_init_69, s_X1_init_71, s_X1_init_73, s_X1_init_76, s_X1_init_77, s_X1_init_79, s_X1_init_81, s_X1_init_84, s_X1_init_85, s_X1_init_87, s_X1_init_89, s_X1_init_92, s_X1_init_93, s_X1_init_95, s_X1_init_97, s_X1_init_100, s_X1_init_101, s_X1_init_102, s_X1_init_104, s_X1_init_107, s_X1_init_108, s_X1_init_109, s_X1_init_111, s_X1_init_114, ↓reduceIte, Option.toList_some, Option.toList_none, List.cons_append, List.nil_append, List.singleton_append, List.append_nil, true_and, and_true, true_or, or_true, andT, iteT, iteF, itT, itF, wNew_1, wPut_1, wGrid_1, wS_new, wS_grid, wS_pt, hw, hs]
  try rfl
theorem sA_X1_60 (hx : 0 ≤ x) (hxt : x < t) (hw : (w.1 : Int) = t) (hs : (wS w x).1 = 1) : R (d + 1) M_X1_init 60 [(2, x)] [] w m K = R (d + 1) M_X1_init 68 [(2, x)] [] (wAl w 100 6 x 9 t) (mNew w m) K := by
  unfold wAl
  rw [s_X1_init_60]
  simp (disch := first | assumption | omega | (simp (disch := omega) only [gU_row, gU_same, gU_i, gCp_row] <;> omega)) only [e_X1_init, s_X1_init_0, s_X1_init_1, s_X1_init_4, s_X1_init_5, s_X1_init_7, s_X1_init_9, s_X1_init_12, s_X1_init_13, s_X1_init_15, s_X1_init_17, s_X1_init_20, s_X1_init_21, s_X1_init_23, s_X1_init_25, s_X1_init_28, s_X1_init_29, s_X1_init_31, s_X1_init_33, s_X1_init_36, s_X1_init_37, s_X1_init_39, s_X1_init_41, s_X1_init_44, s_X1_init_45, s_X1_init_47, s_X1_init_49, s_X1_init_52, s_X1_init_53, s_X1_init_55, s_X1_init_57, s_X1_init_60, s_X1_init_61, s_X1_init_63, s_X1_init_65, s_X1_init_69, s_X1_init_71, s_X1_init_73, s_X1_init_76, s_X1_init_77, s_X1_init_79, s_X1_init_81, s_X1_init_84, s_X1_init_85, s_X1_init_87, s_X1_init_89, s_X1_init_92, s_X1_init_93, s_X1_init_95, s_X1_init_97, s_X1_init_100, s_X1_init_101, s_X1_init_102, s_X1_init_104, s_X1_init_107, s_X1_init_108, s_X1_init_109, s_X1_init_111, s_X1_init_114, ↓reduceIte, Option.toList_some, Option.toList_none, List.cons_append, List.nil_append, List.singleton_append, List.append_nil, true_and, and_true, true_or, or_true, andT, iteT, iteF, itT, itF, wNew_1, wPut_1, wGrid_1, wS_new, wS_grid, wS_pt, hw, hs]
  try rfl
theorem sA_X1_68 (hx : 0 ≤ x) (hxt : x < t) (hw : (w.1 : Int) = t) (hs : (wS w x).1 = 1) : R (d + 1) M_X1_init 68 [(2, x)] [] w m K = R (d + 1) M_X1_init 76 [(2, x)] [] (wAl w 101 6 x 10 t) (mNew w m) K := by
  unfold wAl
  rw [s_X1_init_68]
  simp (disch := first | assumption | omega | (simp (disch := omega) only [gU_row, gU_same, gU_i, gCp_row] <;> omega)) only [e_X1_init, s_X1_init_0, s_X1_init_1, s_X1_init_4, s_X1_init_5, s_X1_init_7, s_X1_init_9, s_X1_init_12, s_X1_init_13, s_X1_init_15, s_X1_init_17, s_X1_init_20, s_X1_init_21, s_X1_init_23, s_X1_init_25, s_X1_init_28, s_X1_init_29, s_X1_init_31, s_X1_init_33, s_X1_init_36, s_X1_init_37, s_X1_init_39, s_X1_init_41, s_X1_init_44, s_X1_init_45, s_X1_init_47, s_X1_init_49, s_X1_init_52, s_X1_init_53, s_X1_init_55, s_X1_init_57, s_X1_init_60, s_X1_init_61, s_X1_init_63, s_X1_init_65, s_X1_init_68, s_X1_init_69, s_X1_init_71, s_X1_init_73, s_X1_init_77, s_X1_init_79, s_X1_init_81, s_X1_init_84, s_X1_init_85, s_X1_init_87, s_X1_init_89, s_X1_init_92, s_X1_init_93, s_X1_init_95, s_X1_init_97, s_X1_init_100, s_X1_init_101, s_X1_init_102, s_X1_init_104, s_X1_init_107, s_X1_init_108, s_X1_init_109, s_X1_init_111, s_X1_init_114, ↓reduceIte, Option.toList_some, Option.toList_none, List.cons_append, List.nil_append, List.singleton_append, List.append_nil, true_and, and_true, true_or, or_true, andT, iteT, iteF, itT, itF, wNew_1, wPut_1, wGrid_1, wS_new, wS_grid, wS_pt, hw, hs]
  try rfl
theorem sA_X1_76 (hx : 0 ≤ x) (hxt : x < t) (hw : (w.1 : Int) = t) (hs : (wS w x).1 = 1) : R (d + 1) M_X1_init 76 [(2, x)] [] w m K = R (d + 1) M_X1_init 84 [(2, x)] [] (wAl w 100 6 x 11 t) (mNew w m) K := by
  unfold wAl
  rw [s_X1_init_76]
  simp (disch := first | assumption | omega | (simp (disch := omega) only [gU_row, gU_same, gU_i, gCp_row] <;> omega)) only [e_X1_init, s_X1_init_0, s_X1_init_1, s_X1_init_4, s_X1_init_5, s_X1_init_7, s_X1_init_9, s_X1_init_12, s_X1_init_13, s_X1_init_15, s_X1_init_17, s_X1_init_20, s_X1_init_21, s_X1_init_23, s_X1_init_25, s_X1_init_28, s_X1_init_29, s_X1_init_31, s_X1_init_33, s_X1_init_36, s_X1_init_37, s_X1_init_39, s_X1_init_41, s_X1_init_44, s_X1_init_45, s_X1_init_47, s_X1_init_49, s_X1_init_52, s_X1_init_53, s_X1_init_55, s_X1_init_57, s_X1_init_60, s_X1_init_61, s_X1_init_63, s_X1_init_65, s_X1_init_68, s_X1_init_69, s_X1_init_71, s_X1_init_73, s_X1_init_76, s_X1_init_77, s_X1_init_79, s_X1_init_81, s_X1_init_85, s_X1_init_87, s_X1_init_89, s_X1_init_92, s_X1_init_93, s_X1_init_95, s_X1_init_97, s_X1_init_100, s_X1_init_101, s_X1_init_102, s_X1_init_104, s_X1_init_107, s_X1_init_108, s_X1_init_109, s_X1_init_111, s_X1_init_114, ↓reduceIte, Option.toList_some, Option.toList_none, List.cons_append, List.nil_append, List.singleton_append, List.append_nil, true_and, and_true, true_or, or_true, andT, iteT, iteF, itT, itF, wNew_1, wPut_1, wGrid_1, wS_new, wS_grid, wS_pt, hw, hs]
  try rfl
theorem sA_X1_84 (hx : 0 ≤ x) (hxt : x < t) (hw : (w.1 : Int) = t) (hs : (wS w x).1 = 1) : R (d + 1) M_X1_init 84 [(2, x)] [] w m K = R (d + 1) M_X1_init 92 [(2, x)] [] (wAl w 102 6 x 12 t) (mNew w m) K := by
  unfold wAl
  rw [s_X1_init_84]
  simp (disch := first | assumption | omega | (simp (disch := omega) only [gU_row, gU_same, gU_i, gCp_row] <;> omega)) only [e_X1_init, s_X1_init_0, s_X1_init_1, s_X1_init_4, s_X1_init_5, s_X1_init_7, s_X1_init_9, s_X1_init_12, s_X1_init_13, s_X1_init_15, s_X1_init_17, s_X1_init_20, s_X1_init_21, s_X1_init_23, s_X1_init_25, s_X1_init_28, s_X1_init_29, s_X1_init_31, s_X1_init_33, s_X1_init_36, s_X1_init_37, s_X1_init_39, s_X1_init_41, s_X1_init_44, s_X1_init_45, s_X1_init_47, s_X1_init_49, s_X1_init_52, s_X1_init_53, s_X1_init_55, s_X1_init_57, s_X1_init_60, s_X1_init_61, s_X1_init_63, s_X1_init_65, s_X1_init_68, s_X1_init_69, s_X1_init_71, s_X1_init_73, s_X1_init_76, s_X1_init_77, s_X1_init_79, s_X1_init_81, s_X1_init_84, s_X1_init_85, s_X1_init_87, s_X1_init_89, s_X1_init_93, s_X1_init_95, s_X1_init_97, s_X1_init_100, s_X1_init_101, s_X1_init_102, s_X1_init_104, s_X1_init_107, s_X1_init_108, s_X1_init_109, s_X1_init_111, s_X1_init_114, ↓reduceIte, Option.toList_some, Option.toList_none, List.cons_append, List.nil_append, List.singleton_append, List.append_nil, true_and, and_true, true_or, or_true, andT, iteT, iteF, itT, itF, wNew_1, wPut_1, wGrid_1, wS_new, wS_grid, wS_pt, hw, hs]
  try rfl
theorem sA_X1_92 (hx : 0 ≤ x) (hxt : x < t) (hw : (w.1 : Int) = t) (hs : (wS w x).1 = 1) : R (d + 1) M_X1_init 92 [(2, x)] [] w m K = R (d + 1) M_X1_init 100 [(2, x)] [] (wAl w 102 6 x 13 t) (mNew w m) K := by
  unfold wAl
  rw [s_X1_init_92]
  simp (disch := first | assumption | omega | (simp (disch := omega) only [gU_row, gU_same, gU_i, gCp_row] <;> omega)) only [e_X1_init, s_X1_init_0, s_X1_init_1, s_X1_init_4, s_X1_init_5, s_X1_init_7, s_X1_init_9, s_X1_init_12, s_X1_init_13, s_X1_init_15, s_X1_init_17, s_X1_init_20, s_X1_init_21, s_X1_init_23, s_X1_init_25, s_X1_init_28, s_X1_init_29, s_X1_init_31, s_X1_init_33, s_X1_init_36, s_X1_init_37, s_X1_init_39, s_X1_init_41, s_X1_init_44, s_X1_init_45, s_X1_init_47, s_X1_init_49, s_X1_init_52, s_X1_init_53, s_X1_init_55, s_X1_init_57, s_X1_init_60, s_X1_init_61, s_X1_init_63, s_X1_init_65, s_X1_init_68, s_X1_init_69, s_X1_init_71, s_X1_init_73, s_X1_init_76, s_X1_init_77, s_X1_init_79, s_X1_init_81, s_X1_init_84, s_X1_init_85, s_X1_init_87, s_X1_init_89, s_X1_init_92, s_X1_init_93, s_X1_init_95, s_X1_init_97, s_X1_init_101, s_X1_init_102, s_X1_init_104, s_X1_init_107, s_X1_init_108, s_X1_init_109, s_X1_init_111, s_X1_init_114, ↓reduceIte, Option.toList_some, Option.toList_none, List.cons_append, List.nil_append, List.singleton_append, List.append_nil, true_and, and_true, true_or, or_true, andT, iteT, iteF, itT, itF, wNew_1, wPut_1, wGrid_1, wS_new, wS_grid, wS_pt, hw, hs]
  try rfl
theorem sA_X1_100 (hx : 0 ≤ x) (hxt : x < t) (hw : (w.1 : Int) = t) (hs : (wS w x).1 = 1) : R (d + 1) M_X1_init 100 [(2, x)] [] w m K = R (d + 1) M_X1_init 107 [(2, x)] [] (wAl w 101 5 x 14 t) (mNew w m) K := by
  unfold wAl
  rw [s_X1_init_100]
  simp (disch := first | assumption | omega | (simp (disch := omega) only [gU_row, gU_same, gU_i, gCp_row] <;> omega)) only [e_X1_init, s_X1_init_0, s_X1_init_1, s_X1_init_4, s_X1_init_5, s_X1_init_7, s_X1_init_9, s_X1_init_12, s_X1_init_13, s_X1_init_15, s_X1_init_17, s_X1_init_20, s_X1_init_21, s_X1_init_23, s_X1_init_25, s_X1_init_28, s_X1_init_29, s_X1_init_31, s_X1_init_33, s_X1_init_36, s_X1_init_37, s_X1_init_39, s_X1_init_41, s_X1_init_44, s_X1_init_45, s_X1_init_47, s_X1_init_49, s_X1_init_52, s_X1_init_53, s_X1_init_55, s_X1_init_57, s_X1_init_60, s_X1_init_61, s_X1_init_63, s_X1_init_65, s_X1_init_68, s_X1_init_69, s_X1_init_71, s_X1_init_73, s_X1_init_76, s_X1_init_77, s_X1_init_79, s_X1_init_81, s_X1_init_84, s_X1_init_85, s_X1_init_87, s_X1_init_89, s_X1_init_92, s_X1_init_93, s_X1_init_95, s_X1_init_97, s_X1_init_100, s_X1_init_101, s_X1_init_102, s_X1_init_104, s_X1_init_108, s_X1_init_109, s_X1_init_111, s_X1_init_114, ↓reduceIte, Option.toList_some, Option.toList_none, List.cons_append, List.nil_append, List.singleton_append, List.append_nil, true_and, and_true, true_or, or_true, andT, iteT, iteF, itT, itF, wNew_1, wPut_1, wGrid_1, wS_new, wS_grid, wS_pt, hw, hs]
  try rfl
theorem sA_X1_107 (hx : 0 ≤ x) (hxt : x < t) (hw : (w.1 : Int) = t) (hs : (wS w x).1 = 1) : R (d + 1) M_X1_init 107 [(2, x)] [] w m K = R (d + 1) M_X1_init 114 [(2, x)] [] (wAl w 101 5 x 15 t) (mNew w m) K := by
  unfold wAl
  rw [s_X1_init_107]
  simp (disch := first | assumption | omega | (simp (disch := omega) only [gU_row, gU_same, gU_i, gCp_row] <;> omega)) only [e_X1_init, s_X1_init_0, s_X1_init_1, s_X1_init_4, s_X1_init_5, s_X1_init_7, s_X1_init_9, s_X1_init_12, s_X1_init_13, s_X1_init_15, s_X1_init_17, s_X1_init_20, s_X1_init_21, s_X1_init_23, s_X1_init_25, s_X1_init_28, s_X1_init_29, s_X1_init_31, s_X1_init_33, s_X1_init_36, s_X1_init_37, s_X1_init_39, s_X1_init_41, s_X1_init_44, s_X1_init_45, s_X1_init_47, s_X1_init_49, s_X1_init_52, s_X1_init_53, s_X1_init_55, s_X1_init_57, s_X1_init_60, s_X1_init_61, s_X1_init_63, s_X1_init_65, s_X1_init_68, s_X1_init_69, s_X1_init_71, s_X1_init_73, s_X1_init_76, s_X1_init_77, s_X1_init_79, s_X1_init_81, s_X1_init_84, s_X1_init_85, s_X1_init_87, s_X1_init_89, s_X1_init_92, s_X1_init_93, s_X1_init_95, s_X1_init_97, s_X1_init_100, s_X1_init_101, s_X1_init_102, s_X1_init_104, s_X1_init_107, s_X1_init_108, s_X1_init_109, s_X1_init_111, ↓reduceIte, Option.toList_some, Option.toList_none, List.cons_append, List.nil_append, List.singleton_append, List.append_nil, true_and, and_true, true_or, or_true, andT, iteT, iteF, itT, itF, wNew_1, wPut_1, wGrid_1, wS_new, wS_grid, wS_pt, hw, hs]
  try rfl
theorem sA_X3_26 (hx : 0 ≤ x) (hxt : x < t) (hw : (w.1 : Int) = t) (hs : (wS w x).1 = 3) : R (d + 1) M_X3_init 26 [(2, x)] [] w m K = R (d + 1) M_X3_init 38 [(2, x)] [] (wGr w 100 24 8 x 2 t) (mGrid w m 24) K := by
  unfold wGr
  rw [s_X3_init_26]
  simp (disch := first | assumption | omega | (simp (disch := omega) only [gU_row, gU_same, gU_i, gCp_row] <;> omega)) only [e_X3_init, s_X3_init_0, s_X3_init_1, s_X3_init_4, s_X3_init_5, s_X3_init_8, s_X3_init_9, s_X3_init_12, s_X3_init_15, s_X3_init_16, s_X3_init_19, s_X3_init_20, s_X3_init_23, s_X3_init_26, s_X3_init_27, s_X3_init_29, s_X3_init_31, s_X3_init_35, s_X3_init_39, s_X3_init_41, s_X3_init_43, s_X3_init_46, s_X3_init_47, s_X3_init_48, s_X3_init_50, s_X3_init_54, s_X3_init_57, s_X3_init_58, s_X3_init_59, s_X3_init_61, s_X3_init_65, s_X3_init_68, s_X3_init_69, s_X3_init_70, s_X3_init_72, s_X3_init_75, s_X3_init_76, s_X3_init_77, s_X3_init_79, s_X3_init_82, s_X3_init_83, s_X3_init_84, s_X3_init_86, s_X3_init_89, s_X3_init_90, s_X3_init_91, s_X3_init_93, s_X3_init_96, s_X3_init_97, s_X3_init_98, s_X3_init_100, s_X3_init_103, s_X3_init_104, s_X3_init_106, s_X3_init_108, s_X3_init_111, s_X3_init_112, s_X3_init_113, s_X3_init_115, s_X3_init_119, s_X3_init_122, s_X3_init_123, s_X3_init_124, s_X3_init_126, s_X3_init_130, s_X3_init_133, s_X3_init_134, s_X3_init_136, s_X3_init_138, s_X3_init_141, s_X3_init_142, s_X3_init_145, s_X3_init_146, s_X3_init_149, s_X3_init_152, ↓reduceIte, Option.toList_some, Option.toList_none, List.cons_append, List.nil_append, List.singleton_append, List.append_nil, true_and, and_true, true_or, or_true, andT, iteT, iteF, itT, itF, wNew_1, wPut_1, wGrid_1, wS_new, wS_grid, wS_pt, hw, hs]
  try rfl
theorem sA_X3_38 (hx : 0 ≤ x) (hxt : x < t) (hw : (w.1 : Int) = t) (hs : (wS w x).1 = 3) : R (d + 1) M_X3_init 38 [(2, x)] [] w m K = R (d + 1) M_X3_init 46 [(2, x)] [] (wAl w 101 24 x 3 t) (mNew w m) K := by
  unfold wAl
  rw [s_X3_init_38]
  simp (disch := first | assumption | omega | (simp (disch := omega) only [gU_row, gU_same, gU_i, gCp_row] <;> omega)) only [e_X3_init, s_X3_init_0, s_X3_init_1, s_X3_init_4, s_X3_init_5, s_X3_init_8, s_X3_init_9, s_X3_init_12, s_X3_init_15, s_X3_init_16, s_X3_init_19, s_X3_init_20, s_X3_init_23, s_X3_init_26, s_X3_init_27, s_X3_init_29, s_X3_init_31, s_X3_init_35, s_X3_init_38, s_X3_init_39, s_X3_init_41, s_X3_init_43, s_X3_init_47, s_X3_init_48, s_X3_init_50, s_X3_init_54, s_X3_init_57, s_X3_init_58, s_X3_init_59, s_X3_init_61, s_X3_init_65, s_X3_init_68, s_X3_init_69, s_X3_init_70, s_X3_init_72, s_X3_init_75, s_X3_init_76, s_X3_init_77, s_X3_init_79, s_X3_init_82, s_X3_init_83, s_X3_init_84, s_X3_init_86, s_X3_init_89, s_X3_init_90, s_X3_init_91, s_X3_init_93, s_X3_init_96, s_X3_init_97, s_X3_init_98, s_X3_init_100, s_X3_init_103, s_X3_init_104, s_X3_init_106, s_X3_init_108, s_X3_init_111, s_X3_init_112, s_X3_init_113, s_X3_init_115, s_X3_init_119, s_X3_init_122, s_X3_init_123, s_X3_init_124, s_X3_init_126, s_X3_init_130, s_X3_init_133, s_X3_init_134, s_X3_init_136, s_X3_init_138, s_X3_init_141, s_X3_init_142, s_X3_init_145, s_X3_init_146, s_X3_init_149, s_X3_init_152, ↓reduceIte, Option.toList_some, Option.toList_none, List.cons_append, List.nil_append, List.singleton_append, List.append_nil, true_and, and_true, true_or, or_true, andT, iteT, iteF, itT, itF, wNew_1, wPut_1, wGrid_1, wS_new, wS_grid, wS_pt, hw, hs]
  try rfl
theorem sA_X3_46 (hx : 0 ≤ x) (hxt : x < t) (hw : (w.1 : Int) = t) (hs : (wS w x).1 = 3) : R (d + 1) M_X3_init 46 [(2, x)] [] w m K = R (d + 1) M_X3_init 57 [(2, x)] [] (wGr w 101 5 8 x 4 t) (mGrid w m 5) K := by
  unfold wGr
  rw [s_X3_init_46]
  simp (disch := first | assumption | omega | (simp (disch := omega) only [gU_row, gU_same, gU_i, gCp_row] <;> omega)) only [e_X3_init, s_X3_init_0, s_X3_init_1, s_X3_init_4, s_X3_init_5, s_X3_init_8, s_X3_init_9, s_X3_init_12, s_X3_init_15, s_X3_init_16, s_X3_init_19, s_X3_init_20, s_X3_init_23, s_X3_init_26, s_X3_init_27, s_X3_init_29, s_X3_init_31, s_X3_init_35, s_X3_init_38, s_X3_init_39, s_X3_init_41, s_X3_init_43, s_X3_init_46, s_X3_init_47, s_X3_init_48, s_X3_init_50, s_X3_init_54, s_X3_init_58, s_X3_init_59, s_X3_init_61, s_X3_init_65, s_X3_init_68, s_X3_init_69, s_X3_init_70, s_X3_init_72, s_X3_init_75, s_X3_init_76, s_X3_init_77, s_X3_init_79, s_X3_init_82, s_X3_init_83, s_X3_init_84, s_X3_init_86, s_X3_init_89, s_X3_init_90, s_X3_init_91, s_X3_init_93, s_X3_init_96, s_X3_init_97, s_X3_init_98, s_X3_init_100, s_X3_init_103, s_X3_init_104, s_X3_init_106, s_X3_init_108, s_X3_init_111, s_X3_init_112, s_X3_init_113, s_X3_init_115, s_X3_init_119, s_X3_init_122, s_X3_init_123, s_X3_init_124, s_X3_init_126, s_X3_init_130, s_X3_init_133, s_X3_init_134, s_X3_init_136, s_X3_init_138, s_X3_init_141, s_X3_init_142, s_X3_init_145, s_X3_init_146, s_X3_init_149, s_X3_init_152, ↓reduceIte, Option.toList_some, Option.toList_none, List.cons_append, List.nil_append, List.singleton_append, List.append_nil, true_and, and_true, true_or, or_true, andT, iteT, iteF, itT, itF, wNew_1, wPut_1, wGrid_1, wS_new, wS_grid, wS_pt, hw, hs]
  try rfl
theorem sA_X3_57 (hx : 0 ≤ x) (hxt : x < t) (hw : (w.1 : Int) = t) (hs : (wS w x).1 = 3) : R (d + 1) M_X3_init 57 [(2, x)] [] w m K = R (d + 1) M_X3_init 68 [(2, x)] [] (wGr w 101 5 6 x 5 t) (mGrid w m 5) K := by
  unfold wGr
  rw [s_X3_init_57]
  simp (disch := first | assumption | omega | (simp (disch := omega) only [gU_row, gU_same, gU_i, gCp_row] <;> omega)) only [e_X3_init, s_X3_init_0, s_X3_init_1, s_X3_init_4, s_X3_init_5, s_X3_init_8, s_X3_init_9, s_X3_init_12, s_X3_init_15, s_X3_init_16, s_X3_init_19, s_X3_init_20, s_X3_init_23, s_X3_init_26, s_X3_init_27, s_X3_init_29, s_X3_init_31, s_X3_init_35, s_X3_init_38, s_X3_init_39, s_X3_init_41, s_X3_init_43, s_X3_init_46, s_X3_init_47, s_X3_init_48, s_X3_init_50, s_X3_init_54, s_X3_init_57, s_X3_init_58, s_X3_init_59, s_X3_init_61, s_X3_init_65, s_X3_init_69, s_X3_init_70, s_X3_init_72, s_X3_init_75, s_X3_init_76, s_X3_init_77, s_X3_init_79, s_X3_init_82, s_X3_init_83, s_X3_init_84, s_X3_init_86, s_X3_init_89, s_X3_init_90, s_X3_init_91, s_X3_init_93, s_X3_init_96, s_X3_init_97, s_X3_init_98, s_X3_init_100, s_X3_init_103, s_X3_init_104, s_X3_init_106, s_X3_init_108, s_X3_init_111, s_X3_init_112, s_X3_init_113, s_X3_init_115, s_X3_init_119, s_X3_init_122, s_X3_init_123, s_X3_init_124, s_X3_init_126, s_X3_init_130, s_X3_init_133, s_X3_init_134, s_X3_init_136, s_X3_init_138, s_X3_init_141, s_X3_init_142, s_X3_init_145, s_X3_init_146, s_X3_init_149, s_X3_init_152, ↓reduceIte, Option.toList_some, Option.toList_none, List.cons_append, List.nil_append, List.singleton_append, List.append_nil, true_and, and_true, true_or, or_true, andT, iteT, iteF, itT, itF, wNew_1, wPut_1, wGrid_1, wS_new, wS_grid, wS_pt, hw, hs]
  try rfl
theorem sA_X3_68 (hx : 0 ≤ x) (hxt : x < t) (hw : (w.1 : Int) = t) (hs : (wS w x).1 = 3) : R (d + 1) M_X3_init 68 [(2, x)] [] w m K = R (d + 1) M_X3_init 75 [(2, x)] [] (wAl w 101 5 x 6 t) (mNew w m) K := by
  unfold wAl
  rw [s_X3_init_68]
  simp (disch := first | assumption | omega | (simp (disch := omega) only [gU_row, gU_same, gU_i, gCp_row] <;> omega)) only [e_X3_init, s_X3_init_0, s_X3_init_1, s_X3_init_4, s_X3_init_5, s_X3_init_8, s_X3_init_9, s_X3_init_12, s_X3_init_15, s_X3_init_16, s_X3_init_19, s_X3_init_20, s_X3_init_23, s_X3_init_26, s_X3_init_27, s_X3_init_29, s_X3_init_31, s_X3_init_35, s_X3_init_38, s_X3_init_39, s_X3_init_41, s_X3_init_43, s_X3_init_46, s_X3_init_47, s_X3_init_48, s_X3_init_50, s_X3_init_54, s_X3_init_57, s_X3_init_58, s_X3_init_59, s_X3_init_61, s_X3_init_65, s_X3_init_68, s_X3_init_69, s_X3_init_70, s_X3_init_72, s_X3_init_76, s_X3_init_77, s_X3_init_79, s_X3_init_82, s_X3_init_83, s_X3_init_84, s_X3_init_86, s_X3_init_89, s_X3_init_90, s_X3_init_91, s_X3_init_93, s_X3_init_96, s_X3_init_97, s_X3_init_98, s_X3_init_100, s_X3_init_103, s_X3_init_104, s_X3_init_106, s_X3_init_108, s_X3_init_111, s_X3_init_112, s_X3_init_113, s_X3_init_115, s_X3_init_119, s_X3_init_122, s_X3_init_123, s_X3_init_124, s_X3_init_126, s_X3_init_130, s_X3_init_133, s_X3_init_134, s_X3_init_136, s_X3_init_138, s_X3_init_141, s_X3_init_142, s_X3_init_145, s_X3_init_146, s_X3_init_149, s_X3_init_152, ↓reduceIte, Option.toList_some, Option.toList_none, List.cons_append, List.nil_append, List.singleton_append, List.append_nil, true_and, and_true, true_or, or_true, andT, iteT, iteF, itT, itF, wNew_1, wPut_1, wGrid_1, wS_new, wS_grid, wS_pt, hw, hs]
  try rfl
theorem sA_X3_75 (hx : 0 ≤ x) (hxt : x < t) (hw : (w.1 : Int) = t) (hs : (wS w x).1 = 3) : R (d + 1) M_X3_init 75 [(2, x)] [] w m K = R (d + 1) M_X3_init 82 [(2, x)] [] (wAl w 101 5 x 7 t) (mNew w m) K := by
  unfold wAl
  rw [s_X3_init_75]
  simp (disch := first | assumption | omega | (simp (disch := omega) only [gU_row, gU_same, gU_i, gCp_row] <;> omega)) only [e_X3_init, s_X3_init_0, s_X3_init_1, s_X3_init_4, s_X3_init_5, s_X3_init_8, s_X3_init_9, s_X3_init_12, s_X3_init_15, s_X3_init_16, s_X3_init_19, s_X3_init_20, s_X3_init_23, s_X3_init_26, s_X3_init_27, s_X3_init_29, s_X3_init_31, s_X3_init_35, s_X3_init_38, s_X3_init_39, s_X3_init_41, s_X3_init_43, s_X3_init_46, s_X3_init_47, s_X3_init_48, s_X3_init_50, s_X3_init_54, s_X3_init_57, s_X3_init_58, s_X3_init_59, s_X3_init_61, s_X3_init_65, s_X3_init_68, s_X3_init_69, s_X3_init_70, s_X3_init_72, s_X3_init_75, s_X3_init_76, s_X3_init_77, s_X3_init_79, s_X3_init_83, s_X3_init_84, s_X3_init_86, s_X3_init_89, s_X3_init_90, s_X3_init_91, s_X3_init_93, s_X3_init_96, s_X3_init_97, s_X3_init_98, s_X3_init_100, s_X3_init_103, s_X3_init_104, s_X3_init_106, s_X3_init_108, s_X3_init_111, s_X3_init_112, s_X3_init_113, s_X3_init_115, s_X3_init_119, s_X3_init_122, s_X3_init_123, s_X3_init_124, s_X3_init_126, s_X3_init_130, s_X3_init_133, s_X3_init_134, s_X3_init_136, s_X3_init_138, s_X3_init_141, s_X3_init_142, s_X3_init_145, s_X3_init_146, s_X3_init_149, s_X3_init_152, ↓reduceIte, Option.toList_some, Option.toList_none, List.cons_append, List.nil_append, List.singleton_append, List.append_nil, true_and, and_true, true_or, or_true, andT, iteT, iteF, itT, itF, wNew_1, wPut_1, wGrid_1, wS_new, wS_grid, wS_pt, hw, hs]
  try rfl
theorem sA_X3_82 (hx : 0 ≤ x) (hxt : x < t) (hw : (w.1 : Int) = t) (hs : (wS w x).1 = 3) : R (d + 1) M_X3_init 82 [(2, x)] [] w m K = R (d + 1) M_X3_init 89 [(2, x)] [] (wAl w 101 5 x 8 t) (mNew w m) K := by
  unfold wAl
  rw [s_X3_init_82]
  simp (disch := first | assumption | omega | (simp (disch := omega) only [gU_row, gU_same, gU_i, gCp_row] <;> omega)) only [e_X3_init, s_X3_init_0, s_X3_init_1, s_X3_init_4, s_X3_init_5, s_X3_init_8, s_X3_init_9, s_X3_init_12, s_X3_init_15, s_X3_init_16, s_X3_init_19, s_X3_init_20, s_X3_init_23, s_X3_init_26, s_X3_init_27, s_X3_init_29, s_X3_init_31, s_X3_init_35, s_X3_init_38, s_X3_init_39, s_X3_init_41, s_X3_init_43, s_X3_init_46, s_X3_init_47, s_X3_init_48, s_X3_init_50, s_X3_init_54, s_X3_init_57, s_X3_init_58, s_X3_init_59, s_X3_init_61, s_X3_init_65, s_X3_init_68, s_X3_init_69, s_X3_init_70, s_X3_init_72, s_X3_init_75, s_X3_init_76, s_X3_init_77, s_X3_init_79, s_X3_init_82, s_X3_init_83, s_X3_init_84, s_X3_init_86, s_X3_init_90, s_X3_init_91, s_X3_init_93, s_X3_init_96, s_X3_init_97, s_X3_init_98, s_X3_init_100, s_X3_init_103, s_X3_init_104, s_X3_init_106, s_X3_init_108, s_X3_init_111, s_X3_init_112, s_X3_init_113, s_X3_init_115, s_X3_init_119, s_X3_init_122, s_X3_init_123, s_X3_init_124, s_X3_init_126, s_X3_init_130, s_X3_init_133, s_X3_init_134, s_X3_init_136, s_X3_init_138, s_X3_init_141, s_X3_init_142, s_X3_init_145, s_X3_init_146, s_X3_init_149, s_X3_init_152, ↓reduceIte, Option.toList_some, Option.toList_none, List.cons_append, List.nil_append, List.singleton_append, List.append_nil, true_and, and_true, true_or, or_true, andT, iteT, iteF, itT, itF, wNew_1, wPut_1, wGrid_1, wS_new, wS_grid, wS_pt, hw, hs]
  try rfl
theorem sA_X3_89 (hx : 0 ≤ x) (hxt : x < t) (hw : (w.1 : Int) = t) (hs : (wS w x).1 = 3) : R (d + 1) M_X3_init 89 [(2, x)] [] w m K = R (d + 1) M_X3_init 96 [(2, x)] [] (wAl w 101 5 x 9 t) (mNew w m) K := by
  unfold wAl
  rw [s_X3_init_89]
  simp (disch := first | assumption | omega | (simp (disch := omega) only [gU_row, gU_same, gU_i, gCp_row] <;> omega)) only [e_X3_init, s_X3_init_0, s_X3_init_1, s_X3_init_4, s_X3_init_5, s_X3_init_8, s_X3_init_9, s_X3_init_12, s_X3_init_15, s_X3_init_16, s_X3_init_19, s_X3_init_20, s_X3_init_23, s_X3_init_26, s_X3_init_27, s_X3_init_29, s_X3_init_31, s_X3_init_35, s_X3_init_38, s_X3_init_39, s_X3_init_41, s_X3_init_43, s_X3_init_46, s_X3_init_47, s_X3_init_48, s_X3_init_50, s_X3_init_54, s_X3_init_57, s_X3_init_58, s_X3_init_59, s_X3_init_61, s_X3_init_65, s_X3_init_68, s_X3_init_69, s_X3_init_70, s_X3_init_72, s_X3_init_75, s_X3_init_76, s_X3_init_77, s_X3_init_79, s_X3_init_82, s_X3_init_83, s_X3_init_84, s_X3_init_86, s_X3_init_89, s_X3_init_90, s_X3_init_91, s_X3_init_93, s_X3_init_97, s_X3_init_98, s_X3_init_100, s_X3_init_103, s_X3_init_104, s_X3_init_106, s_X3_init_108, s_X3_init_111, s_X3_init_112, s_X3_init_113, s_X3_init_115, s_X3_init_119, s_X3_init_122, s_X3_init_123, s_X3_init_124, s_X3_init_126, s_X3_init_130, s_X3_init_133, s_X3_init_134, s_X3_init_136, s_X3_init_138, s_X3_init_141, s_X3_init_142, s_X3_init_145, s_X3_init_146, s_X3_init_149, s_X3_init_152, ↓reduceIte, Option.toList_some, Option.toList_none, List.cons_append, List.nil_append, List.singleton_append, List.append_nil, true_and, and_true, true_or, or_true, andT, iteT, iteF, itT, itF, wNew_1, wPut_1, wGrid_1, wS_new, wS_grid, wS_pt, hw, hs]
  try rfl
theorem sA_X3_96 (hx : 0 ≤ x) (hxt : x < t) (hw : (w.1 : Int) = t) (hs : (wS w x).1 = 3) : R (d + 1) M_X3_init 96 [(2, x)] [] w m K = R (d + 1) M_X3_init 103 [(2, x)] [] (wAl w 101 5 x 10 t) (mNew w m) K := by
  unfold wAl
  rw [s_X3_init_96]
  simp (disch := first | assumption | omega | (simp (disch := omega) only [gU_row, gU_same, gU_i, gCp_row] <;> omega)) only [e_X3_init, s_X3_init_0, s_X3_init_1, s_X3_init_4, s_X3_init_5, s_X3_init_8, s_X3_init_9, s_X3_init_12, s_X3_init_15, s_X3_init_16, s_X3_init_19, s_X3_init_20, s_X3_init_23, s_X3_init_26, s_X3_init_27, s_X3_init_29, s_X3_init_31, s_X3_init_35, s_X3_init_38, s_X3_init_39, s_X3_init_41, s_X3_init_43, s_X3_init_46, s_X3_init_47, s_X3_init_48, s_X3_init_50, s_X3_init_54, s_X3_init_57, s_X3_init_58, s_X3_init_59, s_X3_init_61, s_X3_init_65, s_X3_init_68, s_X3_init_69, s_X3_init_70, s_X3_init_72, s_X3_init_75, s_X3_init_76, s_X3_init_77, s_X3_init_79, s_X3_init_82, s_X3_init_83, s_X3_init_84, s_X3_init_86, s_X3_init_89, s_X3_init_90, s_X3_init_91, s_X3_init_93, s_X3_init_96, s_X3_init_97, s_X3_init_98, s_X3_init_100, s_X3_init_104, s_X3_init_106, s_X3_init_108, s_X3_init_111, s_X3_init_112, s_X3_init_113, s_X3_init_115, s_X3_init_119, s_X3_init_122, s_X3_init_123, s_X3_init_124, s_X3_init_126, s_X3_init_130, s_X3_init_133, s_X3_init_134, s_X3_init_136, s_X3_init_138, s_X3_init_141, s_X3_init_142, s_X3_init_145, s_X3_init_146, s_X3_init_149, s_X3_init_152, ↓reduceIte, Option.toList_some, Option.toList_none, List.cons_append, List.nil_append, List.singleton_append, List.append_nil, true_and, and_true, true_or, or_true, andT, iteT, iteF, itT, itF, wNew_1, wPut_1, wGrid_1, wS_new, wS_grid, wS_pt, hw, hs]
  try rfl
theorem sA_X3_103 (hx : 0 ≤ x) (hxt : x < t) (hw : (w.1 : Int) = t) (hs : (wS w x).1 = 3) : R (d + 1) M_X3_init 103 [(2, x)] [] w m K = R (d + 1) M_X3_init 111 [(2, x)] [] (wAl w 101 6 x 11 t) (mNew w m) K := by
  unfold wAl
  rw [s_X3_init_103]
  simp (disch := first | assumption | omega | (simp (disch := omega) only [gU_row, gU_same, gU_i, gCp_row] <;> omega)) only [e_X3_init, s_X3_init_0, s_X3_init_1, s_X3_init_4, s_X3_init_5, s_X3_init_8, s_X3_init_9, s_X3_init_12, s_X3_init_15, s_X3_init_16, s_X3_init_19, s_X3_init_20, s_X3_init_23, s_X3_init_26, s_X3_init_27, s_X3_init_29, s_X3_init_31, s_X3_init_35, s_X3_init_38, s_X3_init_39, s_X3_init_41, s_X3_init_43, s_X3_init_46, s_X3_init_47, s_X3_init_48, s_X3_init_50, s_X3_init_54, s_X3_init_57, s_X3_init_58, s_X3_init_59, s_X3_init_61, s_X3_init_65, s_X3_init_68, s_X3_init_69, s_X3_init_70, s_X3_init_72, s_X3_init_75, s_X3_init_76, s_X3_init_77, s_X3_init_79, s_X3_init_82, s_X3_init_83, s_X3_init_84, s_X3_init_86, s_X3_init_89, s_X3_init_90, s_X3_init_91, s_X3_init_93, s_X3_init_96, s_X3_init_97, s_X3_init_98, s_X3_init_100, s_X3_init_103, s_X3_init_104, s_X3_init_106, s_X3_init_108, s_X3_init_112, s_X3_init_113, s_X3_init_115, s_X3_init_119, s_X3_init_122, s_X3_init_123, s_X3_init_124, s_X3_init_126, s_X3_init_130, s_X3_init_133, s_X3_init_134, s_X3_init_136, s_X3_init_138, s_X3_init_141, s_X3_init_142, s_X3_init_145, s_X3_init_146, s_X3_init_149, s_X3_init_152, ↓reduceIte, Option.toList_some, Option.toList_none, List.cons_append, List.nil_append, List.singleton_append, List.append_nil, true_and, and_true, true_or, or_true, andT, iteT, iteF, itT, itF, wNew_1, wPut_1, wGrid_1, wS_new, wS_grid, wS_pt, hw, hs]
  try rfl
theorem sA_X3_111 (hx : 0 ≤ x) (hxt : x < t) (hw : (w.1 : Int) = t) (hs : (wS w x).1 = 3) : R (d + 1) M_X3_init 111 [(2, x)] [] w m K = R (d + 1) M_X3_init 122 [(2, x)] [] (wGr w 100 5 8 x 12 t) (mGrid w m 5) K := by
  unfold wGr
  rw [s_X3_init_111]
  simp (disch := first | assumption | omega | (simp (disch := omega) only [gU_row, gU_same, gU_i, gCp_row] <;> omega)) only [e_X3_init, s_X3_init_0, s_X3_init_1, s_X3_init_4, s_X3_init_5, s_X3_init_8, s_X3_init_9, s_X3_init_12, s_X3_init_15, s_X3_init_16, s_X3_init_19, s_X3_init_20, s_X3_init_23, s_X3_init_26, s_X3_init_27, s_X3_init_29, s_X3_init_31, s_X3_init_35, s_X3_init_38, s_X3_init_39, s_X3_init_41, s_X3_init_43, s_X3_init_46, s_X3_init_47, s_X3_init_48, s_X3_init_50, s_X3_init_54, s_X3_init_57, s_X3_init_58, s_X3_init_59, s_X3_init_61, s_X3_init_65, s_X3_init_68, s_X3_init_69, s_X3_init_70, s_X3_init_72, s_X3_init_75, s_X3_init_76, s_X3_init_77, s_X3_init_79, s_X3_init_82, s_X3_init_83, s_X3_init_84, s_X3_init_86, s_X3_init_89, s_X3_init_90, s_X3_init_91, s_X3_init_93, s_X3_init_96, s_X3_init_97, s_X3_init_98, s_X3_init_100, s_X3_init_103, s_X3_init_104, s_X3_init_106, s_X3_init_108, s_X3_init_111, s_X3_init_112, s_X3_init_113, s_X3_init_115, s_X3_init_119, s_X3_init_123, s_X3_init_124, s_X3_init_126, s_X3_init_130, s_X3_init_133, s_X3_init_134, s_X3_init_136, s_X3_init_138, s_X3_init_141, s_X3_init_142, s_X3_init_145, s_X3_init_146, s_X3_init_149, s_X3_init_152, ↓reduceIte, Option.toList_some, Option.toList_none, List.cons_append, List.nil_append, List.singleton_append, List.append_nil, true_and, and_true, true_or, or_true, andT, iteT, iteF, itT, itF, wNew_1, wPut_1, wGrid_1, wS_new, wS_grid, wS_pt, hw, hs]
  try rfl
theorem sA_X3_122 (hx : 0 ≤ x) (hxt : x < t) (hw : (w.1 : Int) = t) (hs : (wS w x).1 = 3) : R (d + 1) M_X3_init 122 [(2, x)] [] w m K = R (d + 1) M_X3_init 133 [(2, x)] [] (wGr w 100 5 8 x 13 t) (mGrid w m 5) K := by
  unfold wGr
  rw [s_X3_init_122]
  simp (disch := first | assumption | omega | (simp (disch := omega) only [gU_row, gU_same, gU_i, gCp_row] <;> omega)) only [e_X3_init, s_X3_init_0, s_X3_init_1, s_X3_init_4, s_X3_init_5, s_X3_init_8, s_X3_init_9, s_X3_init_12, s_X3_init_15, s_X3_init_16, s_X3_init_19, s_X3_init_20, s_X3_init_23, s_X3_init_26, s_X3_init_27, s_X3_init_29, s_X3_init_31, s_X3_init_35, s_X3_init_38, s_X3_init_39, s_X3_init_41, s_X3_init_43, s_X3_init_46, s_X3_init_47, s_X3_init_48, s_X3_init_50, s_X3_init_54, s_X3_init_57, s_X3_init_58, s_X3_init_59, s_X3_init_61, s_X3_init_65, s_X3_init_68, s_X3_init_69, s_X3_init_70, s_X3_init_72, s_X3_init_75, s_X3_init_76, s_X3_init_77, s_X3_init_79, s_X3_init_82, s_X3_init_83, s_X3_init_84, s_X3_init_86, s_X3_init_89, s_X3_init_90, s_X3_init_91, s_X3_init_93, s_X3_init_96, s_X3_init_97, s_X3_init_98, s_X3_init_100, s_X3_init_103, s_X3_init_104, s_X3_init_106, s_X3_init_108, s_X3_init_111, s_X3_init_112, s_X3_init_113, s_X3_init_115, s_X3_init_119, s_X3_init_122, s_X3_init_123, s_X3_init_124, s_X3_init_126, s_X3_init_130, s_X3_init_134, s_X3_init_136, s_X3_init_138, s_X3_init_141, s_X3_init_142, s_X3_init_145, s_X3_init_146, s_X3_init_149, s_X3_init_152, ↓reduceIte, Option.toList_some, Option.toList_none, List.cons_append, List.nil_append, List.singleton_append, List.append_nil, true_and, and_true, true_or, or_true, andT, iteT, iteF, itT, itF, wNew_1, wPut_1, wGrid_1, wS_new, wS_grid, wS_pt, hw, hs]
  try rfl
theorem sA_X3_133 (hx : 0 ≤ x) (hxt : x < t) (hw : (w.1 : Int) = t) (hs : (wS w x).1 = 3) : R (d + 1) M_X3_init 133 [(2, x)] [] w m K = R (d + 1) M_X3_init 141 [(2, x)] [] (wAl w 101 6 x 14 t) (mNew w m) K := by
  unfold wAl
  rw [s_X3_init_133]
  simp (disch := first | assumption | omega | (simp (disch := omega) only [gU_row, gU_same, gU_i, gCp_row] <;> omega)) only [e_X3_init, s_X3_init_0, s_X3_init_1, s_X3_init_4, s_X3_init_5, s_X3_init_8, s_X3_init_9, s_X3_init_12, s_X3_init_15, s_X3_init_16, s_X3_init_19, s_X3_init_20, s_X3_init_23, s_X3_init_26, s_X3_init_27, s_X3_init_29, s_X3_init_31, s_X3_init_35, s_X3_init_38, s_X3_init_39, s_X3_init_41, s_X3_init_43, s_X3_init_46, s_X3_init_47, s_X3_init_48, s_X3_init_50, s_X3_init_54, s_X3_init_57, s_X3_init_58, s_X3_init_59, s_X3_init_61, s_X3_init_65, s_X3_init_68, s_X3_init_69, s_X3_init_70, s_X3_init_72, s_X3_init_75, s_X3_init_76, s_X3_init_77, s_X3_init_79, s_X3_init_82, s_X3_init_83, s_X3_init_84, s_X3_init_86, s_X3_init_89, s_X3_init_90, s_X3_init_91, s_X3_init_93, s_X3_init_96, s_X3_init_97, s_X3_init_98, s_X3_init_100, s_X3_init_103, s_X3_init_104, s_X3_init_106, s_X3_init_108, s_X3_init_111, s_X3_init_112, s_X3_init_113, s_X3_init_115, s_X3_init_119, s_X3_init_122, s_X3_init_123, s_X3_init_124, s_X3_init_126, s_X3_init_130, s_X3_init_133, s_X3_init_134, s_X3_init_136, s_X3_init_138, s_X3_init_142, s_X3_init_145, s_X3_init_146, s_X3_init_149, s_X3_init_152, ↓reduceIte, Option.toList_some, Option.toList_none, List.cons_append, List.nil_append, List.singleton_append, List.append_nil, true_and, and_true, true_or, or_true, andT, iteT, iteF, itT, itF, wNew_1, wPut_1, wGrid_1, wS_new, wS_grid, wS_pt, hw, hs]
  try rfl
theorem sA_X3_141 (hx : 0 ≤ x) (hxt : x < t) (hw : (w.1 : Int) = t) (hs : (wS w x).1 = 3) : R (d + 1) M_X3_init 141 [(2, x)] [] w m K = R (d + 1) M_X3_init 152 [(2, x)] [] (wAl w 2 1 x 15 t) (mNew w m) K := by
  unfold wAl
  rw [s_X3_init_141]
  simp (disch := first | assumption | omega | (simp (disch := omega) only [gU_row, gU_same, gU_i, gCp_row] <;> omega)) only [e_X3_init, s_X3_init_0, s_X3_init_1, s_X3_init_4, s_X3_init_5, s_X3_init_8, s_X3_init_9, s_X3_init_12, s_X3_init_15, s_X3_init_16, s_X3_init_19, s_X3_init_20, s_X3_init_23, s_X3_init_26, s_X3_init_27, s_X3_init_29, s_X3_init_31, s_X3_init_35, s_X3_init_38, s_X3_init_39, s_X3_init_41, s_X3_init_43, s_X3_init_46, s_X3_init_47, s_X3_init_48, s_X3_init_50, s_X3_init_54, s_X3_init_57, s_X3_init_58, s_X3_init_59, s_X3_init_61, s_X3_init_65, s_X3_init_68, s_X3_init_69, s_X3_init_70, s_X3_init_72, s_X3_init_75, s_X3_init_76, s_X3_init_77, s_X3_init_79, s_X3_init_82, s_X3_init_83, s_X3_init_84, s_X3_init_86, s_X3_init_89, s_X3_init_90, s_X3_init_91, s_X3_init_93, s_X3_init_96, s_X3_init_97, s_X3_init_98, s_X3_init_100, s_X3_init_103, s_X3_init_104, s_X3_init_106, s_X3_init_108, s_X3_init_111, s_X3_init_112, s_X3_init_113, s_X3_init_115, s_X3_init_119, s_X3_init_122, s_X3_init_123, s_X3_init_124, s_X3_init_126, s_X3_init_130, s_X3_init_133, s_X3_init_134, s_X3_init_136, s_X3_init_138, s_X3_init_141, s_X3_init_142, s_X3_init_145, s_X3_init_146, s_X3_init_149, e_X2_init, s_X2_init_0, s_X2_init_1, s_X2_init_4, ↓reduceIte, Option.toList_some, Option.toList_none, List.cons_append, List.nil_append, List.singleton_append, List.append_nil, true_and, and_true, true_or, or_true, andT, iteT, iteF, itT, itF, wNew_1, wPut_1, wGrid_1, wS_new, wS_grid, wS_pt, hw, hs]
  try rfl
set_option maxHeartbeats 1000000 in
theorem i_X1 (hx : 0 ≤ x) (hw : (w.1 : Int) = x + 1) (hs : (wS w x).1 = 1) (hk : ∀ m' w', w' = wR (tlCr x) w → (w'.1 : Int) = x + 15 → (∀ a, a ≤ x ∨ x + 14 < a → m' a = m a) → K none w' m') : C (d + 2) M_X1_init [(2, x)] w m K := by
  simp (disch := first | assumption | omega | (simp (disch := omega) only [gU_row, gU_same, gU_i, gCp_row] <;> omega)) only [e_X1_init, s_X1_init_0, s_X1_init_1, s_X1_init_5, s_X1_init_7, s_X1_init_9, s_X1_init_12, s_X1_init_13, s_X1_init_15, s_X1_init_17, s_X1_init_20, s_X1_init_21, s_X1_init_23, s_X1_init_25, s_X1_init_28, s_X1_init_29, s_X1_init_31, s_X1_init_33, s_X1_init_36, s_X1_init_37, s_X1_init_39, s_X1_init_41, s_X1_init_44, s_X1_init_45, s_X1_init_47, s_X1_init_49, s_X1_init_52, s_X1_init_53, s_X1_init_55, s_X1_init_57, s_X1_init_60, s_X1_init_61, s_X1_init_63, s_X1_init_65, s_X1_init_68, s_X1_init_69, s_X1_init_71, s_X1_init_73, s_X1_init_76, s_X1_init_77, s_X1_init_79, s_X1_init_81, s_X1_init_84, s_X1_init_85, s_X1_init_87, s_X1_init_89, s_X1_init_92, s_X1_init_93, s_X1_init_95, s_X1_init_97, s_X1_init_100, s_X1_init_101, s_X1_init_102, s_X1_init_104, s_X1_init_107, s_X1_init_108, s_X1_init_109, s_X1_init_111, s_X1_init_114, ↓reduceIte, Option.toList_some, Option.toList_none, List.cons_append, List.nil_append, List.singleton_append, List.append_nil, true_and, and_true, true_or, or_true, andT, iteT, iteF, itT, itF]
  have c_4 : ((wAl w 100 6 (x) 1 (x + 1)).1 : Int) = x + 2 := by rw [wAl_1, hw]; omega
  have s_4 : (wS (wAl w 100 6 (x) 1 (x + 1)) (x)).1 = 1 := wAl_s (by omega) hs
  rw [sA_X1_4 (by omega) (by omega) hw hs]
  have r_4 : ∀ a, a ≠ x + 1 → (mNew w m) a = m a := fun a h => mNew_ne (by rw [hw]; omega)
  have z_4 : (mNew w m) (x + 1) = fun _ => 0 := mNew_eq (by rw [hw])
  generalize hM_4 : mNew w m = M_4 at *
  generalize hW_4 : wAl w 100 6 (x) 1 (x + 1) = W_4 at *
  have c_12 : ((wAl W_4 100 6 (x) 2 (x + 2)).1 : Int) = x + 3 := by rw [wAl_1, c_4]; omega
  have s_12 : (wS (wAl W_4 100 6 (x) 2 (x + 2)) (x)).1 = 1 := wAl_s (by omega) s_4
  rw [sA_X1_12 (by omega) (by omega) c_4 s_4]
  have r_12 : ∀ a, a ≠ x + 2 → (mNew W_4 M_4) a = M_4 a := fun a h => mNew_ne (by rw [c_4]; omega)
  have z_12 : (mNew W_4 M_4) (x + 2) = fun _ => 0 := mNew_eq (by rw [c_4])
  generalize hM_12 : mNew W_4 M_4 = M_12 at *
  generalize hW_12 : wAl W_4 100 6 (x) 2 (x + 2) = W_12 at *
  clear c_4 s_4
  have c_20 : ((wAl W_12 100 6 (x) 3 (x + 3)).1 : Int) = x + 4 := by rw [wAl_1, c_12]; omega
  have s_20 : (wS (wAl W_12 100 6 (x) 3 (x + 3)) (x)).1 = 1 := wAl_s (by omega) s_12
  rw [sA_X1_20 (by omega) (by omega) c_12 s_12]
  have r_20 : ∀ a, a ≠ x + 3 → (mNew W_12 M_12) a = M_12 a := fun a h => mNew_ne (by rw [c_12]; omega)
  have z_20 : (mNew W_12 M_12) (x + 3) = fun _ => 0 := mNew_eq (by rw [c_12])
  generalize hM_20 : mNew W_12 M_12 = M_20 at *
  generalize hW_20 : wAl W_12 100 6 (x) 3 (x + 3) = W_20 at *
  clear c_12 s_12
  have c_28 : ((wAl W_20 101 6 (x) 4 (x + 4)).1 : Int) = x + 5 := by rw [wAl_1, c_20]; omega
  have s_28 : (wS (wAl W_20 101 6 (x) 4 (x + 4)) (x)).1 = 1 := wAl_s (by omega) s_20
  rw [sA_X1_28 (by omega) (by omega) c_20 s_20]
  have r_28 : ∀ a, a ≠ x + 4 → (mNew W_20 M_20) a = M_20 a := fun a h => mNew_ne (by rw [c_20]; omega)
  have z_28 : (mNew W_20 M_20) (x + 4) = fun _ => 0 := mNew_eq (by rw [c_20])
  generalize hM_28 : mNew W_20 M_20 = M_28 at *
  generalize hW_28 : wAl W_20 101 6 (x) 4 (x + 4) = W_28 at *
  clear c_20 s_20
  have c_36 : ((wAl W_28 100 6 (x) 6 (x + 5)).1 : Int) = x + 6 := by rw [wAl_1, c_28]; omega
  have s_36 : (wS (wAl W_28 100 6 (x) 6 (x + 5)) (x)).1 = 1 := wAl_s (by omega) s_28
  rw [sA_X1_36 (by omega) (by omega) c_28 s_28]
  have r_36 : ∀ a, a ≠ x + 5 → (mNew W_28 M_28) a = M_28 a := fun a h => mNew_ne (by rw [c_28]; omega)
  have z_36 : (mNew W_28 M_28) (x + 5) = fun _ => 0 := mNew_eq (by rw [c_28])
  generalize hM_36 : mNew W_28 M_28 = M_36 at *
  generalize hW_36 : wAl W_28 100 6 (x) 6 (x + 5) = W_36 at *
  clear c_28 s_28
  have c_44 : ((wAl W_36 100 6 (x) 7 (x + 6)).1 : Int) = x + 7 := by rw [wAl_1, c_36]; omega
  have s_44 : (wS (wAl W_36 100 6 (x) 7 (x + 6)) (x)).1 = 1 := wAl_s (by omega) s_36
  rw [sA_X1_44 (by omega) (by omega) c_36 s_36]
  have r_44 : ∀ a, a ≠ x + 6 → (mNew W_36 M_36) a = M_36 a := fun a h => mNew_ne (by rw [c_36]; omega)
  have z_44 : (mNew W_36 M_36) (x + 6) = fun _ => 0 := mNew_eq (by rw [c_36])
  generalize hM_44 : mNew W_36 M_36 = M_44 at *
  generalize hW_44 : wAl W_36 100 6 (x) 7 (x + 6) = W_44 at *
  clear c_36 s_36
  have c_52 : ((wAl W_44 100 6 (x) 8 (x + 7)).1 : Int) = x + 8 := by rw [wAl_1, c_44]; omega
  have s_52 : (wS (wAl W_44 100 6 (x) 8 (x + 7)) (x)).1 = 1 := wAl_s (by omega) s_44
  rw [sA_X1_52 (by omega) (by omega) c_44 s_44]
  have r_52 : ∀ a, a ≠ x + 7 → (mNew W_44 M_44) a = M_44 a := fun a h => mNew_ne (by rw [c_44]; omega)
  have z_52 : (mNew W_44 M_44) (x + 7) = fun _ => 0 := mNew_eq (by rw [c_44])
  generalize hM_52 : mNew W_44 M_44 = M_52 at *
  generalize hW_52 : wAl W_44 100 6 (x) 8 (x + 7) = W_52 at *
  clear c_44 s_44
  have c_60 : ((wAl W_52 100 6 (x) 9 (x + 8)).1 : Int) = x + 9 := by rw [wAl_1, c_52]; omega
  have s_60 : (wS (wAl W_52 100 6 (x) 9 (x + 8)) (x)).1 = 1 := wAl_s (by omega) s_52
  rw [sA_X1_60 (by omega) (by omega) c_52 s_52]
  have r_60 : ∀ a, a ≠ x + 8 → (mNew W_52 M_52) a = M_52 a := fun a h => mNew_ne (by rw [c_52]; omega)
  have z_60 : (mNew W_52 M_52) (x + 8) = fun _ => 0 := mNew_eq (by rw [c_52])
  generalize hM_60 : mNew W_52 M_52 = M_60 at *
  generalize hW_60 : wAl W_52 100 6 (x) 9 (x + 8) = W_60 at *
  clear c_52 s_52
  have c_68 : ((wAl W_60 101 6 (x) 10 (x + 9)).1 : Int) = x + 10 := by rw [wAl_1, c_60]; omega
  have s_68 : (wS (wAl W_60 101 6 (x) 10 (x + 9)) (x)).1 = 1 := wAl_s (by omega) s_60
  rw [sA_X1_68 (by omega) (by omega) c_60 s_60]
  have r_68 : ∀ a, a ≠ x + 9 → (mNew W_60 M_60) a = M_60 a := fun a h => mNew_ne (by rw [c_60]; omega)
  have z_68 : (mNew W_60 M_60) (x + 9) = fun _ => 0 := mNew_eq (by rw [c_60])
  generalize hM_68 : mNew W_60 M_60 = M_68 at *
  generalize hW_68 : wAl W_60 101 6 (x) 10 (x + 9) = W_68 at *
  clear c_60 s_60
  have c_76 : ((wAl W_68 100 6 (x) 11 (x + 10)).1 : Int) = x + 11 := by rw [wAl_1, c_68]; omega
  have s_76 : (wS (wAl W_68 100 6 (x) 11 (x + 10)) (x)).1 = 1 := wAl_s (by omega) s_68
  rw [sA_X1_76 (by omega) (by omega) c_68 s_68]
  have r_76 : ∀ a, a ≠ x + 10 → (mNew W_68 M_68) a = M_68 a := fun a h => mNew_ne (by rw [c_68]; omega)
  have z_76 : (mNew W_68 M_68) (x + 10) = fun _ => 0 := mNew_eq (by rw [c_68])
  generalize hM_76 : mNew W_68 M_68 = M_76 at *
  generalize hW_76 : wAl W_68 100 6 (x) 11 (x + 10) = W_76 at *
  clear c_68 s_68
  have c_84 : ((wAl W_76 102 6 (x) 12 (x + 11)).1 : Int) = x + 12 := by rw [wAl_1, c_76]; omega
  have s_84 : (wS (wAl W_76 102 6 (x) 12 (x + 11)) (x)).1 = 1 := wAl_s (by omega) s_76
  rw [sA_X1_84 (by omega) (by omega) c_76 s_76]
  have r_84 : ∀ a, a ≠ x + 11 → (mNew W_76 M_76) a = M_76 a := fun a h => mNew_ne (by rw [c_76]; omega)
  have z_84 : (mNew W_76 M_76) (x + 11) = fun _ => 0 := mNew_eq (by rw [c_76])
  generalize hM_84 : mNew W_76 M_76 = M_84 at *
  generalize hW_84 : wAl W_76 102 6 (x) 12 (x + 11) = W_84 at *
  clear c_76 s_76
  have c_92 : ((wAl W_84 102 6 (x) 13 (x + 12)).1 : Int) = x + 13 := by rw [wAl_1, c_84]; omega
  have s_92 : (wS (wAl W_84 102 6 (x) 13 (x + 12)) (x)).1 = 1 := wAl_s (by omega) s_84
  rw [sA_X1_92 (by omega) (by omega) c_84 s_84]
  have r_92 : ∀ a, a ≠ x + 12 → (mNew W_84 M_84) a = M_84 a := fun a h => mNew_ne (by rw [c_84]; omega)
  have z_92 : (mNew W_84 M_84) (x + 12) = fun _ => 0 := mNew_eq (by rw [c_84])
  generalize hM_92 : mNew W_84 M_84 = M_92 at *
  generalize hW_92 : wAl W_84 102 6 (x) 13 (x + 12) = W_92 at *
  clear c_84 s_84
  have c_100 : ((wAl W_92 101 5 (x) 14 (x + 13)).1 : Int) = x + 14 := by rw [wAl_1, c_92]; omega
  have s_100 : (wS (wAl W_92 101 5 (x) 14 (x + 13)) (x)).1 = 1 := wAl_s (by omega) s_92
  rw [sA_X1_100 (by omega) (by omega) c_92 s_92]
  have r_100 : ∀ a, a ≠ x + 13 → (mNew W_92 M_92) a = M_92 a := fun a h => mNew_ne (by rw [c_92]; omega)
  have z_100 : (mNew W_92 M_92) (x + 13) = fun _ => 0 := mNew_eq (by rw [c_92])
  generalize hM_100 : mNew W_92 M_92 = M_100 at *
  generalize hW_100 : wAl W_92 101 5 (x) 14 (x + 13) = W_100 at *
  clear c_92 s_92
  have c_107 : ((wAl W_100 101 5 (x) 15 (x + 14)).1 : Int) = x + 15 := by rw [wAl_1, c_100]; omega
  have s_107 : (wS (wAl W_100 101 5 (x) 15 (x + 14)) (x)).1 = 1 := wAl_s (by omega) s_100
  rw [sA_X1_107 (by omega) (by omega) c_100 s_100]
  have r_107 : ∀ a, a ≠ x + 14 → (mNew W_100 M_100) a = M_100 a := fun a h => mNew_ne (by rw [c_100]; omega)
  have z_107 : (mNew W_100 M_100) (x + 14) = fun _ => 0 := mNew_eq (by rw [c_100])
  generalize hM_107 : mNew W_100 M_100 = M_107 at *
  generalize hW_107 : wAl W_100 101 5 (x) 15 (x + 14) = W_107 at *
  clear c_100 s_100
  rw [s_X1_init_114]
  refine hk M_107 W_107 ?_ c_107 (fun a ha => ?_)
  · rw [← hW_107, ← hW_100, ← hW_92, ← hW_84, ← hW_76, ← hW_68, ← hW_60, ← hW_52, ← hW_44, ← hW_36, ← hW_28, ← hW_20, ← hW_12, ← hW_4]
    rfl
  · rw [r_107 a (by omega), r_100 a (by omega), r_92 a (by omega), r_84 a (by omega), r_76 a (by omega), r_68 a (by omega), r_60 a (by omega), r_52 a (by omega), r_44 a (by omega), r_36 a (by omega), r_28 a (by omega), r_20 a (by omega), r_12 a (by omega), r_4 a (by omega)]
set_option maxHeartbeats 2000000 in
theorem i_X3 (hr : RB r) (hw : (w.1 : Int) = r + 1) (hs : (wS w r).1 = 3) (h3 : wS w (-3) = (100, 6)) (hm3 : ∀ i, m (-3) i = lk [100, 20, 1, 10, 2, 1] i) (hk : ∀ m' w', w' = wR (oRk r) w → (w'.1 : Int) = r + 87 → BK m' (r + 1) bk0 → (∀ a, a ≤ r ∨ r + 86 < a → m' a = m a) → K none w' m') : C (d + 4) M_X3_init [(2, r)] w m K := by
  have r0 := RB_bd hr
  simp (disch := first | assumption | omega | (simp (disch := omega) only [gU_row, gU_same, gU_i, gCp_row] <;> omega)) only [e_X3_init, s_X3_init_0, s_X3_init_1, s_X3_init_4, s_X3_init_5, s_X3_init_8, s_X3_init_9, s_X3_init_15, s_X3_init_16, s_X3_init_19, s_X3_init_20, s_X3_init_23, s_X3_init_26, s_X3_init_27, s_X3_init_29, s_X3_init_31, s_X3_init_35, s_X3_init_38, s_X3_init_39, s_X3_init_41, s_X3_init_43, s_X3_init_46, s_X3_init_47, s_X3_init_48, s_X3_init_50, s_X3_init_54, s_X3_init_57, s_X3_init_58, s_X3_init_59, s_X3_init_61, s_X3_init_65, s_X3_init_68, s_X3_init_69, s_X3_init_70, s_X3_init_72, s_X3_init_75, s_X3_init_76, s_X3_init_77, s_X3_init_79, s_X3_init_82, s_X3_init_83, s_X3_init_84, s_X3_init_86, s_X3_init_89, s_X3_init_90, s_X3_init_91, s_X3_init_93, s_X3_init_96, s_X3_init_97, s_X3_init_98, s_X3_init_100, s_X3_init_103, s_X3_init_104, s_X3_init_106, s_X3_init_108, s_X3_init_111, s_X3_init_112, s_X3_init_113, s_X3_init_115, s_X3_init_119, s_X3_init_122, s_X3_init_123, s_X3_init_124, s_X3_init_126, s_X3_init_130, s_X3_init_133, s_X3_init_134, s_X3_init_136, s_X3_init_138, s_X3_init_141, s_X3_init_142, s_X3_init_145, s_X3_init_146, s_X3_init_149, s_X3_init_152, ↓reduceIte, Option.toList_some, Option.toList_none, List.cons_append, List.nil_append, List.singleton_append, List.append_nil, true_and, and_true, true_or, or_true, andT, iteT, iteF, itT, itF, wNew_1, wPut_1, wS_new, wS_pt, hw, hs]
  refine i_X0 (q := r + 1) (BB_r hr) (by rw [wNew_1, hw]) (by rw [wS_new, if_pos (by omega)]) (by rw [wS_new, if_neg (by omega)]; exact h3) (fun i => by rw [mNew_ne (by omega)]; exact hm3 i) (fun m1 W1 hW1 c1 b1 f1 => ?_)
  have s1 : (wS W1 r).1 = 3 := by
    rw [hW1, wR_low (by rw [wNew_1]; omega), wS_new, if_neg (by omega)]
    exact hs
  have hc : (W1.1 : Int) = r + 14 := by omega
  simp (disch := first | assumption | omega | (simp (disch := omega) only [gU_row, gU_same, gU_i, gCp_row] <;> omega)) only [e_X3_init, s_X3_init_0, s_X3_init_1, s_X3_init_4, s_X3_init_5, s_X3_init_8, s_X3_init_9, s_X3_init_12, s_X3_init_15, s_X3_init_16, s_X3_init_19, s_X3_init_20, s_X3_init_26, s_X3_init_27, s_X3_init_29, s_X3_init_31, s_X3_init_35, s_X3_init_38, s_X3_init_39, s_X3_init_41, s_X3_init_43, s_X3_init_46, s_X3_init_47, s_X3_init_48, s_X3_init_50, s_X3_init_54, s_X3_init_57, s_X3_init_58, s_X3_init_59, s_X3_init_61, s_X3_init_65, s_X3_init_68, s_X3_init_69, s_X3_init_70, s_X3_init_72, s_X3_init_75, s_X3_init_76, s_X3_init_77, s_X3_init_79, s_X3_init_82, s_X3_init_83, s_X3_init_84, s_X3_init_86, s_X3_init_89, s_X3_init_90, s_X3_init_91, s_X3_init_93, s_X3_init_96, s_X3_init_97, s_X3_init_98, s_X3_init_100, s_X3_init_103, s_X3_init_104, s_X3_init_106, s_X3_init_108, s_X3_init_111, s_X3_init_112, s_X3_init_113, s_X3_init_115, s_X3_init_119, s_X3_init_122, s_X3_init_123, s_X3_init_124, s_X3_init_126, s_X3_init_130, s_X3_init_133, s_X3_init_134, s_X3_init_136, s_X3_init_138, s_X3_init_141, s_X3_init_142, s_X3_init_145, s_X3_init_146, s_X3_init_149, s_X3_init_152, ↓reduceIte, Option.toList_some, Option.toList_none, List.cons_append, List.nil_append, List.singleton_append, List.append_nil, true_and, and_true, true_or, or_true, andT, iteT, iteF, itT, itF, wNew_1, wPut_1, wS_new, wS_pt, hc, s1]
  refine i_X1 (x := r + 14) (by omega) (by rw [wNew_1, wPut_1, hc]) (by rw [wS_new, if_pos (by rw [wPut_1, hc])]) (fun m2 W2' hW2 c2' f2 => ?_)
  have s2' : (wS W2' r).1 = 3 := by
    rw [hW2, wR_low (by rw [wNew_1, wPut_1, hc]; omega), wS_new, if_neg (by rw [wPut_1, hc]; omega), wS_pt]
    exact s1
  simp (disch := first | assumption | omega | (simp (disch := omega) only [gU_row, gU_same, gU_i, gCp_row] <;> omega)) only [e_X3_init, s_X3_init_0, s_X3_init_1, s_X3_init_4, s_X3_init_5, s_X3_init_8, s_X3_init_9, s_X3_init_12, s_X3_init_15, s_X3_init_16, s_X3_init_19, s_X3_init_20, s_X3_init_23, s_X3_init_27, s_X3_init_29, s_X3_init_31, s_X3_init_35, s_X3_init_38, s_X3_init_39, s_X3_init_41, s_X3_init_43, s_X3_init_46, s_X3_init_47, s_X3_init_48, s_X3_init_50, s_X3_init_54, s_X3_init_57, s_X3_init_58, s_X3_init_59, s_X3_init_61, s_X3_init_65, s_X3_init_68, s_X3_init_69, s_X3_init_70, s_X3_init_72, s_X3_init_75, s_X3_init_76, s_X3_init_77, s_X3_init_79, s_X3_init_82, s_X3_init_83, s_X3_init_84, s_X3_init_86, s_X3_init_89, s_X3_init_90, s_X3_init_91, s_X3_init_93, s_X3_init_96, s_X3_init_97, s_X3_init_98, s_X3_init_100, s_X3_init_103, s_X3_init_104, s_X3_init_106, s_X3_init_108, s_X3_init_111, s_X3_init_112, s_X3_init_113, s_X3_init_115, s_X3_init_119, s_X3_init_122, s_X3_init_123, s_X3_init_124, s_X3_init_126, s_X3_init_130, s_X3_init_133, s_X3_init_134, s_X3_init_136, s_X3_init_138, s_X3_init_141, s_X3_init_142, s_X3_init_145, s_X3_init_146, s_X3_init_149, s_X3_init_152, ↓reduceIte, Option.toList_some, Option.toList_none, List.cons_append, List.nil_append, List.singleton_append, List.append_nil, true_and, and_true, true_or, or_true, andT, iteT, iteF, itT, itF, s2']
  have c2 : ((wPut W2' r 1 (r + 14)).1 : Int) = r + 29 := by rw [wPut_1, c2']; omega
  have s2 : (wS (wPut W2' r 1 (r + 14)) r).1 = 3 := s2'
  have f2' : ∀ a, a ≤ r + 13 ∨ r + 28 < a → m2 a = m1 a := fun a ha => by rw [f2 a (by omega), mNew_ne (by rw [wPut_1, hc]; omega)]
  generalize hW2p : wPut W2' r 1 (r + 14) = W2 at *
  have c_26 : ((wGr W2 100 24 8 (r) 2 (r + 29)).1 : Int) = r + 54 := by rw [wGr_1, c2]; omega
  have s_26 : (wS (wGr W2 100 24 8 (r) 2 (r + 29)) (r)).1 = 3 := wGr_s (by omega) s2
  rw [sA_X3_26 (by omega) (by omega) c2 s2]
  have r_26 : ∀ a, (a < r + 29 ∨ r + 29 + 24 < a) → (mGrid W2 m2 24) a = m2 a := fun a h => mGrid_ne (by rw [c2]; omega)
  have z_26 : ∀ a, r + 29 ≤ a ∧ a ≤ r + 29 + 24 → (mGrid W2 m2 24) a = fun _ => 0 := fun a h => mGrid_eq (by rw [c2]; omega)
  generalize hM_26 : mGrid W2 m2 24 = M_26 at *
  generalize hW_26 : wGr W2 100 24 8 (r) 2 (r + 29) = W_26 at *
  have c_38 : ((wAl W_26 101 24 (r) 3 (r + 54)).1 : Int) = r + 55 := by rw [wAl_1, c_26]; omega
  have s_38 : (wS (wAl W_26 101 24 (r) 3 (r + 54)) (r)).1 = 3 := wAl_s (by omega) s_26
  rw [sA_X3_38 (by omega) (by omega) c_26 s_26]
  have r_38 : ∀ a, a ≠ r + 54 → (mNew W_26 M_26) a = M_26 a := fun a h => mNew_ne (by rw [c_26]; omega)
  have z_38 : (mNew W_26 M_26) (r + 54) = fun _ => 0 := mNew_eq (by rw [c_26])
  generalize hM_38 : mNew W_26 M_26 = M_38 at *
  generalize hW_38 : wAl W_26 101 24 (r) 3 (r + 54) = W_38 at *
  clear c_26 s_26
  have c_46 : ((wGr W_38 101 5 8 (r) 4 (r + 55)).1 : Int) = r + 61 := by rw [wGr_1, c_38]; omega
  have s_46 : (wS (wGr W_38 101 5 8 (r) 4 (r + 55)) (r)).1 = 3 := wGr_s (by omega) s_38
  rw [sA_X3_46 (by omega) (by omega) c_38 s_38]
  have r_46 : ∀ a, (a < r + 55 ∨ r + 55 + 5 < a) → (mGrid W_38 M_38 5) a = M_38 a := fun a h => mGrid_ne (by rw [c_38]; omega)
  have z_46 : ∀ a, r + 55 ≤ a ∧ a ≤ r + 55 + 5 → (mGrid W_38 M_38 5) a = fun _ => 0 := fun a h => mGrid_eq (by rw [c_38]; omega)
  generalize hM_46 : mGrid W_38 M_38 5 = M_46 at *
  generalize hW_46 : wGr W_38 101 5 8 (r) 4 (r + 55) = W_46 at *
  clear c_38 s_38
  have c_57 : ((wGr W_46 101 5 6 (r) 5 (r + 61)).1 : Int) = r + 67 := by rw [wGr_1, c_46]; omega
  have s_57 : (wS (wGr W_46 101 5 6 (r) 5 (r + 61)) (r)).1 = 3 := wGr_s (by omega) s_46
  rw [sA_X3_57 (by omega) (by omega) c_46 s_46]
  have r_57 : ∀ a, (a < r + 61 ∨ r + 61 + 5 < a) → (mGrid W_46 M_46 5) a = M_46 a := fun a h => mGrid_ne (by rw [c_46]; omega)
  have z_57 : ∀ a, r + 61 ≤ a ∧ a ≤ r + 61 + 5 → (mGrid W_46 M_46 5) a = fun _ => 0 := fun a h => mGrid_eq (by rw [c_46]; omega)
  generalize hM_57 : mGrid W_46 M_46 5 = M_57 at *
  generalize hW_57 : wGr W_46 101 5 6 (r) 5 (r + 61) = W_57 at *
  clear c_46 s_46
  have c_68 : ((wAl W_57 101 5 (r) 6 (r + 67)).1 : Int) = r + 68 := by rw [wAl_1, c_57]; omega
  have s_68 : (wS (wAl W_57 101 5 (r) 6 (r + 67)) (r)).1 = 3 := wAl_s (by omega) s_57
  rw [sA_X3_68 (by omega) (by omega) c_57 s_57]
  have r_68 : ∀ a, a ≠ r + 67 → (mNew W_57 M_57) a = M_57 a := fun a h => mNew_ne (by rw [c_57]; omega)
  have z_68 : (mNew W_57 M_57) (r + 67) = fun _ => 0 := mNew_eq (by rw [c_57])
  generalize hM_68 : mNew W_57 M_57 = M_68 at *
  generalize hW_68 : wAl W_57 101 5 (r) 6 (r + 67) = W_68 at *
  clear c_57 s_57
  have c_75 : ((wAl W_68 101 5 (r) 7 (r + 68)).1 : Int) = r + 69 := by rw [wAl_1, c_68]; omega
  have s_75 : (wS (wAl W_68 101 5 (r) 7 (r + 68)) (r)).1 = 3 := wAl_s (by omega) s_68
  rw [sA_X3_75 (by omega) (by omega) c_68 s_68]
  have r_75 : ∀ a, a ≠ r + 68 → (mNew W_68 M_68) a = M_68 a := fun a h => mNew_ne (by rw [c_68]; omega)
  have z_75 : (mNew W_68 M_68) (r + 68) = fun _ => 0 := mNew_eq (by rw [c_68])
  generalize hM_75 : mNew W_68 M_68 = M_75 at *
  generalize hW_75 : wAl W_68 101 5 (r) 7 (r + 68) = W_75 at *
  clear c_68 s_68
  have c_82 : ((wAl W_75 101 5 (r) 8 (r + 69)).1 : Int) = r + 70 := by rw [wAl_1, c_75]; omega
  have s_82 : (wS (wAl W_75 101 5 (r) 8 (r + 69)) (r)).1 = 3 := wAl_s (by omega) s_75
  rw [sA_X3_82 (by omega) (by omega) c_75 s_75]
  have r_82 : ∀ a, a ≠ r + 69 → (mNew W_75 M_75) a = M_75 a := fun a h => mNew_ne (by rw [c_75]; omega)
  have z_82 : (mNew W_75 M_75) (r + 69) = fun _ => 0 := mNew_eq (by rw [c_75])
  generalize hM_82 : mNew W_75 M_75 = M_82 at *
  generalize hW_82 : wAl W_75 101 5 (r) 8 (r + 69) = W_82 at *
  clear c_75 s_75
  have c_89 : ((wAl W_82 101 5 (r) 9 (r + 70)).1 : Int) = r + 71 := by rw [wAl_1, c_82]; omega
  have s_89 : (wS (wAl W_82 101 5 (r) 9 (r + 70)) (r)).1 = 3 := wAl_s (by omega) s_82
  rw [sA_X3_89 (by omega) (by omega) c_82 s_82]
  have r_89 : ∀ a, a ≠ r + 70 → (mNew W_82 M_82) a = M_82 a := fun a h => mNew_ne (by rw [c_82]; omega)
  have z_89 : (mNew W_82 M_82) (r + 70) = fun _ => 0 := mNew_eq (by rw [c_82])
  generalize hM_89 : mNew W_82 M_82 = M_89 at *
  generalize hW_89 : wAl W_82 101 5 (r) 9 (r + 70) = W_89 at *
  clear c_82 s_82
  have c_96 : ((wAl W_89 101 5 (r) 10 (r + 71)).1 : Int) = r + 72 := by rw [wAl_1, c_89]; omega
  have s_96 : (wS (wAl W_89 101 5 (r) 10 (r + 71)) (r)).1 = 3 := wAl_s (by omega) s_89
  rw [sA_X3_96 (by omega) (by omega) c_89 s_89]
  have r_96 : ∀ a, a ≠ r + 71 → (mNew W_89 M_89) a = M_89 a := fun a h => mNew_ne (by rw [c_89]; omega)
  have z_96 : (mNew W_89 M_89) (r + 71) = fun _ => 0 := mNew_eq (by rw [c_89])
  generalize hM_96 : mNew W_89 M_89 = M_96 at *
  generalize hW_96 : wAl W_89 101 5 (r) 10 (r + 71) = W_96 at *
  clear c_89 s_89
  have c_103 : ((wAl W_96 101 6 (r) 11 (r + 72)).1 : Int) = r + 73 := by rw [wAl_1, c_96]; omega
  have s_103 : (wS (wAl W_96 101 6 (r) 11 (r + 72)) (r)).1 = 3 := wAl_s (by omega) s_96
  rw [sA_X3_103 (by omega) (by omega) c_96 s_96]
  have r_103 : ∀ a, a ≠ r + 72 → (mNew W_96 M_96) a = M_96 a := fun a h => mNew_ne (by rw [c_96]; omega)
  have z_103 : (mNew W_96 M_96) (r + 72) = fun _ => 0 := mNew_eq (by rw [c_96])
  generalize hM_103 : mNew W_96 M_96 = M_103 at *
  generalize hW_103 : wAl W_96 101 6 (r) 11 (r + 72) = W_103 at *
  clear c_96 s_96
  have c_111 : ((wGr W_103 100 5 8 (r) 12 (r + 73)).1 : Int) = r + 79 := by rw [wGr_1, c_103]; omega
  have s_111 : (wS (wGr W_103 100 5 8 (r) 12 (r + 73)) (r)).1 = 3 := wGr_s (by omega) s_103
  rw [sA_X3_111 (by omega) (by omega) c_103 s_103]
  have r_111 : ∀ a, (a < r + 73 ∨ r + 73 + 5 < a) → (mGrid W_103 M_103 5) a = M_103 a := fun a h => mGrid_ne (by rw [c_103]; omega)
  have z_111 : ∀ a, r + 73 ≤ a ∧ a ≤ r + 73 + 5 → (mGrid W_103 M_103 5) a = fun _ => 0 := fun a h => mGrid_eq (by rw [c_103]; omega)
  generalize hM_111 : mGrid W_103 M_103 5 = M_111 at *
  generalize hW_111 : wGr W_103 100 5 8 (r) 12 (r + 73) = W_111 at *
  clear c_103 s_103
  have c_122 : ((wGr W_111 100 5 8 (r) 13 (r + 79)).1 : Int) = r + 85 := by rw [wGr_1, c_111]; omega
  have s_122 : (wS (wGr W_111 100 5 8 (r) 13 (r + 79)) (r)).1 = 3 := wGr_s (by omega) s_111
  rw [sA_X3_122 (by omega) (by omega) c_111 s_111]
  have r_122 : ∀ a, (a < r + 79 ∨ r + 79 + 5 < a) → (mGrid W_111 M_111 5) a = M_111 a := fun a h => mGrid_ne (by rw [c_111]; omega)
  have z_122 : ∀ a, r + 79 ≤ a ∧ a ≤ r + 79 + 5 → (mGrid W_111 M_111 5) a = fun _ => 0 := fun a h => mGrid_eq (by rw [c_111]; omega)
  generalize hM_122 : mGrid W_111 M_111 5 = M_122 at *
  generalize hW_122 : wGr W_111 100 5 8 (r) 13 (r + 79) = W_122 at *
  clear c_111 s_111
  have c_133 : ((wAl W_122 101 6 (r) 14 (r + 85)).1 : Int) = r + 86 := by rw [wAl_1, c_122]; omega
  have s_133 : (wS (wAl W_122 101 6 (r) 14 (r + 85)) (r)).1 = 3 := wAl_s (by omega) s_122
  rw [sA_X3_133 (by omega) (by omega) c_122 s_122]
  have r_133 : ∀ a, a ≠ r + 85 → (mNew W_122 M_122) a = M_122 a := fun a h => mNew_ne (by rw [c_122]; omega)
  have z_133 : (mNew W_122 M_122) (r + 85) = fun _ => 0 := mNew_eq (by rw [c_122])
  generalize hM_133 : mNew W_122 M_122 = M_133 at *
  generalize hW_133 : wAl W_122 101 6 (r) 14 (r + 85) = W_133 at *
  clear c_122 s_122
  have c_141 : ((wAl W_133 2 1 (r) 15 (r + 86)).1 : Int) = r + 87 := by rw [wAl_1, c_133]; omega
  have s_141 : (wS (wAl W_133 2 1 (r) 15 (r + 86)) (r)).1 = 3 := wAl_s (by omega) s_133
  rw [sA_X3_141 (by omega) (by omega) c_133 s_133]
  have r_141 : ∀ a, a ≠ r + 86 → (mNew W_133 M_133) a = M_133 a := fun a h => mNew_ne (by rw [c_133]; omega)
  have z_141 : (mNew W_133 M_133) (r + 86) = fun _ => 0 := mNew_eq (by rw [c_133])
  generalize hM_141 : mNew W_133 M_133 = M_141 at *
  generalize hW_141 : wAl W_133 2 1 (r) 15 (r + 86) = W_141 at *
  clear c_133 s_133
  rw [s_X3_init_152]
  have F : Fr (r + 14) (r + 86) m1 M_141 := fun a ha => by
    rw [r_141 a (by omega), r_133 a (by omega), r_122 a (by omega), r_111 a (by omega), r_103 a (by omega), r_96 a (by omega), r_89 a (by omega), r_82 a (by omega), r_75 a (by omega), r_68 a (by omega), r_57 a (by omega), r_46 a (by omega), r_38 a (by omega), r_26 a (by omega), f2' a (by omega)]
  refine hk M_141 W_141 ?_ c_141 (BK_fr b1 F (by omega)) (fun a ha => ?_)
  · rw [← hW_141, ← hW_133, ← hW_122, ← hW_111, ← hW_103, ← hW_96, ← hW_89, ← hW_82, ← hW_75, ← hW_68, ← hW_57, ← hW_46, ← hW_38, ← hW_26, ← hW2p, hW2, hW1, oRk, tlRk, wR_app, wR_app, wR_app, wR_app]
    rfl
  · rw [F a (by omega), f1 a (by omega), mNew_ne (by omega)]
end INI2
