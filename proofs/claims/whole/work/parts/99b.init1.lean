/-! THE CONSTRUCTORS of a Book, of a Reckoning. -/
section INI1
variable {L d N a b kd k n : Nat} {z q t c i v x y r s g j : Int} {w W : gW} {m m' M : gM} {K : Option gV → gW → gM → Prop} {xs : Int → Int}
theorem bk0_eq (hT : TBs q m) (h3 : m (q + 3) 3 = 0) (h5 : m (q + 5) 3 = 0) (h7 : m (q + 7) 3 = 0) (h9 : m (q + 9) 3 = 0) (h11 : m (q + 11) 3 = 0) (hr : ∀ r c, 0 ≤ r → r < 5 → 0 ≤ c → c < 6 → m (q + 2) (r * 6 + c) = lk [100, 20, 1, 10, 2, 1] c) : BK m q bk0 := by
  have e0 : ∀ W f, tb 0 W f = (0, fun _ _ => 0) := fun W f => by
    unfold tb
    congr 1
    funext r c
    rw [if_neg (by omega)]
  refine ⟨hT, bk_ext ?_ ?_ ?_ ?_ ?_ ?_ ?_⟩
  · rw [absB_0, hT.2.1]
    unfold tb bk0
    congr 1
    funext r c
    by_cases h : 0 ≤ r ∧ r < 5 ∧ 0 ≤ c ∧ c < 6
    · rw [if_pos h, if_pos h]
      exact hr r c h.1 h.2.1 h.2.2.1 h.2.2.2
    · rw [if_neg h, if_neg h]
  · rw [absB_1, h3, e0]; rfl
  · rw [absB_2, h5, e0]; rfl
  · rw [absB_3, h7, e0]; rfl
  · rw [absB_4, h9, e0]; rfl
  · rw [absB_5, h11, e0]; rfl
  · intro t ht
    rw [absB_6 ht, e0]
    match t, ht with
    | t + 6, _ => rfl
def wTb (w : gW) (b i t : Int) (n : Nat) : gW := wPut (wPut (wNew (wNew w 5 4) 100 n) t 2 (t + 1)) b i t
def mTb (w : gW) (m : gM) (t r c : Int) : gM := gU (mNew (wNew w 5 4) (gU (gU (mNew w m) t 0 r) t 1 c)) t 3 0
theorem wTb_1 : (((wTb w q i t n).1 : Nat) : Int) = (w.1 : Int) + 2 := by
  show (((w.1 + 1 + 1 : Nat)) : Int) = _
  omega
theorem wTb_S (hw : (w.1 : Int) = t) : wS (wTb w q i t n) x = if x = t + 1 then (100, n) else if x = t then (5, 4) else wS w x := by
  show (if x = ((w.1 + 1 : Nat) : Int) then _ else if x = (w.1 : Int) then _ else _) = _
  rw [show ((w.1 + 1 : Nat) : Int) = t + 1 by omega, hw]
theorem wTb_P (hw : (w.1 : Int) = t) : wP (wTb w q i t n) x j = if x = q ∧ j = i then t else if x = t ∧ j = 2 then t + 1 else if x = t + 1 then -1 else if x = t then -1 else wP w x j := by
  show (if x = q ∧ j = i then t else if x = t ∧ j = 2 then t + 1 else if x = ((w.1 + 1 : Nat) : Int) then _ else if x = (w.1 : Int) then _ else _) = _
  rw [show ((w.1 + 1 : Nat) : Int) = t + 1 by omega, hw]
theorem mTb_r (hw : (w.1 : Int) = t) (h1 : x ≠ t) (h2 : x ≠ t + 1) : mTb w m t r c x = m x := by
  unfold mTb
  rw [gU_row h1, mNew_ne (by rw [wNew_1]; omega), gU_row h1, gU_row h1, mNew_ne (by omega)]
theorem mTb_0 (hw : (w.1 : Int) = t) : mTb w m t r c t 0 = r := by
  unfold mTb
  rw [gU_ne (by omega), mNew_ne (by rw [wNew_1]; omega), gU_ne (by omega), gU_same]
theorem mTb_1 (hw : (w.1 : Int) = t) : mTb w m t r c t 1 = c := by
  unfold mTb
  rw [gU_ne (by omega), mNew_ne (by rw [wNew_1]; omega), gU_same]
theorem mTb_3 : mTb w m t r c t 3 = 0 := gU_same ..
theorem mTb_z (hw : (w.1 : Int) = t) (h : x = t + 1) : mTb w m t r c x = fun _ => 0 := by
  unfold mTb
  rw [gU_row (by omega), mNew_eq (by rw [wNew_1]; omega)]
theorem sT_4 (hq : 0 ≤ q) (hqt : q < t) (hw : (w.1 : Int) = t) (hs : (wS w q).1 = 0) : R (d + 2) M_X0_init 4 [(2, q), (3, 0), (3, 0)] [] w m K = R (d + 2) M_X0_init 18 [(2, q), (3, 0), (3, 0)] [] (wTb w q 0 t 30) (mTb w m t 5 6) K := by
  unfold wTb mTb
  rw [s_X0_init_4]
  simp (disch := first | assumption | omega | (simp (disch := omega) only [gU_row, gU_same, gU_i, gCp_row] <;> omega)) only [e_X0_init, s_X0_init_0, s_X0_init_1, s_X0_init_4, s_X0_init_5, s_X0_init_8, s_X0_init_9, s_X0_init_10, s_X0_init_12, s_X0_init_15, s_X0_init_19, s_X0_init_22, s_X0_init_23, s_X0_init_25, s_X0_init_26, s_X0_init_29, s_X0_init_32, s_X0_init_33, s_X0_init_36, s_X0_init_37, s_X0_init_39, s_X0_init_41, s_X0_init_44, s_X0_init_47, s_X0_init_48, s_X0_init_51, s_X0_init_52, s_X0_init_54, s_X0_init_55, s_X0_init_58, s_X0_init_61, s_X0_init_62, s_X0_init_65, s_X0_init_66, s_X0_init_67, s_X0_init_68, s_X0_init_71, s_X0_init_74, s_X0_init_75, s_X0_init_78, s_X0_init_79, s_X0_init_81, s_X0_init_82, s_X0_init_85, s_X0_init_88, s_X0_init_89, s_X0_init_91, s_X0_init_92, s_X0_init_95, s_X0_init_96, s_X0_init_99, s_X0_init_102, s_X0_init_103, s_X0_init_104, s_X0_init_106, s_X0_init_108, s_X0_init_111, s_X0_init_112, s_X0_init_115, s_X0_init_116, s_X0_init_117, s_X0_init_120, s_X0_init_121, s_X0_init_122, s_X0_init_125, s_X0_init_128, s_X0_init_131, s_X0_init_134, s_X0_init_137, e_X5_init, s_X5_init_0, s_X5_init_1, s_X5_init_4, s_X5_init_5, s_X5_init_6, s_X5_init_9, s_X5_init_10, s_X5_init_11, s_X5_init_14, s_X5_init_15, s_X5_init_16, s_X5_init_17, s_X5_init_18, s_X5_init_20, s_X5_init_23, s_X5_init_24, s_X5_init_25, s_X5_init_28, ↓reduceIte, Option.toList_some, Option.toList_none, List.cons_append, List.nil_append, List.singleton_append, List.append_nil, true_and, and_true, true_or, or_true, andT, iteT, iteF, itT, itF, wNew_1, wPut_1, wS_new, wS_pt, hw, hs, imul_ok]
  rfl
theorem sT_18 (hq : 0 ≤ q) (hqt : q < t) (hw : (w.1 : Int) = t) (hs : (wS w q).1 = 0) : R (d + 2) M_X0_init 18 [(2, q), (3, 0), (3, 0)] [] w m K = R (d + 2) M_X0_init 32 [(2, q), (3, 0), (3, 0)] [] (wTb w q 1 t 24) (mTb w m t 8 3) K := by
  unfold wTb mTb
  rw [s_X0_init_18]
  simp (disch := first | assumption | omega | (simp (disch := omega) only [gU_row, gU_same, gU_i, gCp_row] <;> omega)) only [e_X0_init, s_X0_init_0, s_X0_init_1, s_X0_init_4, s_X0_init_5, s_X0_init_8, s_X0_init_9, s_X0_init_10, s_X0_init_12, s_X0_init_15, s_X0_init_18, s_X0_init_19, s_X0_init_22, s_X0_init_23, s_X0_init_25, s_X0_init_26, s_X0_init_29, s_X0_init_33, s_X0_init_36, s_X0_init_37, s_X0_init_39, s_X0_init_41, s_X0_init_44, s_X0_init_47, s_X0_init_48, s_X0_init_51, s_X0_init_52, s_X0_init_54, s_X0_init_55, s_X0_init_58, s_X0_init_61, s_X0_init_62, s_X0_init_65, s_X0_init_66, s_X0_init_67, s_X0_init_68, s_X0_init_71, s_X0_init_74, s_X0_init_75, s_X0_init_78, s_X0_init_79, s_X0_init_81, s_X0_init_82, s_X0_init_85, s_X0_init_88, s_X0_init_89, s_X0_init_91, s_X0_init_92, s_X0_init_95, s_X0_init_96, s_X0_init_99, s_X0_init_102, s_X0_init_103, s_X0_init_104, s_X0_init_106, s_X0_init_108, s_X0_init_111, s_X0_init_112, s_X0_init_115, s_X0_init_116, s_X0_init_117, s_X0_init_120, s_X0_init_121, s_X0_init_122, s_X0_init_125, s_X0_init_128, s_X0_init_131, s_X0_init_134, s_X0_init_137, e_X5_init, s_X5_init_0, s_X5_init_1, s_X5_init_4, s_X5_init_5, s_X5_init_6, s_X5_init_9, s_X5_init_10, s_X5_init_11, s_X5_init_14, s_X5_init_15, s_X5_init_16, s_X5_init_17, s_X5_init_18, s_X5_init_20, s_X5_init_23, s_X5_init_24, s_X5_init_25, s_X5_init_28, ↓reduceIte, Option.toList_some, Option.toList_none, List.cons_append, List.nil_append, List.singleton_append, List.append_nil, true_and, and_true, true_or, or_true, andT, iteT, iteF, itT, itF, wNew_1, wPut_1, wS_new, wS_pt, hw, hs, imul_ok]
  rfl
theorem sT_32 (hq : 0 ≤ q) (hqt : q < t) (hw : (w.1 : Int) = t) (hs : (wS w q).1 = 0) : R (d + 2) M_X0_init 32 [(2, q), (3, 0), (3, 0)] [] w m K = R (d + 2) M_X0_init 47 [(2, q), (3, 0), (3, 0)] [] (wTb w q 2 t 36) (mTb w m t 6 6) K := by
  unfold wTb mTb
  rw [s_X0_init_32]
  simp (disch := first | assumption | omega | (simp (disch := omega) only [gU_row, gU_same, gU_i, gCp_row] <;> omega)) only [e_X0_init, s_X0_init_0, s_X0_init_1, s_X0_init_4, s_X0_init_5, s_X0_init_8, s_X0_init_9, s_X0_init_10, s_X0_init_12, s_X0_init_15, s_X0_init_18, s_X0_init_19, s_X0_init_22, s_X0_init_23, s_X0_init_25, s_X0_init_26, s_X0_init_29, s_X0_init_32, s_X0_init_33, s_X0_init_36, s_X0_init_37, s_X0_init_39, s_X0_init_41, s_X0_init_44, s_X0_init_48, s_X0_init_51, s_X0_init_52, s_X0_init_54, s_X0_init_55, s_X0_init_58, s_X0_init_61, s_X0_init_62, s_X0_init_65, s_X0_init_66, s_X0_init_67, s_X0_init_68, s_X0_init_71, s_X0_init_74, s_X0_init_75, s_X0_init_78, s_X0_init_79, s_X0_init_81, s_X0_init_82, s_X0_init_85, s_X0_init_88, s_X0_init_89, s_X0_init_91, s_X0_init_92, s_X0_init_95, s_X0_init_96, s_X0_init_99, s_X0_init_102, s_X0_init_103, s_X0_init_104, s_X0_init_106, s_X0_init_108, s_X0_init_111, s_X0_init_112, s_X0_init_115, s_X0_init_116, s_X0_init_117, s_X0_init_120, s_X0_init_121, s_X0_init_122, s_X0_init_125, s_X0_init_128, s_X0_init_131, s_X0_init_134, s_X0_init_137, e_X5_init, s_X5_init_0, s_X5_init_1, s_X5_init_4, s_X5_init_5, s_X5_init_6, s_X5_init_9, s_X5_init_10, s_X5_init_11, s_X5_init_14, s_X5_init_15, s_X5_init_16, s_X5_init_17, s_X5_init_18, s_X5_init_20, s_X5_init_23, s_X5_init_24, s_X5_init_25, s_X5_init_28, ↓reduceIte, Option.toList_some, Option.toList_none, List.cons_append, List.nil_append, List.singleton_append, List.append_nil, true_and, and_true, true_or, or_true, andT, iteT, iteF, itT, itF, wNew_1, wPut_1, wS_new, wS_pt, hw, hs, imul_ok]
  rfl
theorem sT_47 (hq : 0 ≤ q) (hqt : q < t) (hw : (w.1 : Int) = t) (hs : (wS w q).1 = 0) : R (d + 2) M_X0_init 47 [(2, q), (3, 0), (3, 0)] [] w m K = R (d + 2) M_X0_init 61 [(2, q), (3, 0), (3, 0)] [] (wTb w q 3 t 120) (mTb w m t 24 5) K := by
  unfold wTb mTb
  rw [s_X0_init_47]
  simp (disch := first | assumption | omega | (simp (disch := omega) only [gU_row, gU_same, gU_i, gCp_row] <;> omega)) only [e_X0_init, s_X0_init_0, s_X0_init_1, s_X0_init_4, s_X0_init_5, s_X0_init_8, s_X0_init_9, s_X0_init_10, s_X0_init_12, s_X0_init_15, s_X0_init_18, s_X0_init_19, s_X0_init_22, s_X0_init_23, s_X0_init_25, s_X0_init_26, s_X0_init_29, s_X0_init_32, s_X0_init_33, s_X0_init_36, s_X0_init_37, s_X0_init_39, s_X0_init_41, s_X0_init_44, s_X0_init_47, s_X0_init_48, s_X0_init_51, s_X0_init_52, s_X0_init_54, s_X0_init_55, s_X0_init_58, s_X0_init_62, s_X0_init_65, s_X0_init_66, s_X0_init_67, s_X0_init_68, s_X0_init_71, s_X0_init_74, s_X0_init_75, s_X0_init_78, s_X0_init_79, s_X0_init_81, s_X0_init_82, s_X0_init_85, s_X0_init_88, s_X0_init_89, s_X0_init_91, s_X0_init_92, s_X0_init_95, s_X0_init_96, s_X0_init_99, s_X0_init_102, s_X0_init_103, s_X0_init_104, s_X0_init_106, s_X0_init_108, s_X0_init_111, s_X0_init_112, s_X0_init_115, s_X0_init_116, s_X0_init_117, s_X0_init_120, s_X0_init_121, s_X0_init_122, s_X0_init_125, s_X0_init_128, s_X0_init_131, s_X0_init_134, s_X0_init_137, e_X5_init, s_X5_init_0, s_X5_init_1, s_X5_init_4, s_X5_init_5, s_X5_init_6, s_X5_init_9, s_X5_init_10, s_X5_init_11, s_X5_init_14, s_X5_init_15, s_X5_init_16, s_X5_init_17, s_X5_init_18, s_X5_init_20, s_X5_init_23, s_X5_init_24, s_X5_init_25, s_X5_init_28, ↓reduceIte, Option.toList_some, Option.toList_none, List.cons_append, List.nil_append, List.singleton_append, List.append_nil, true_and, and_true, true_or, or_true, andT, iteT, iteF, itT, itF, wNew_1, wPut_1, wS_new, wS_pt, hw, hs, imul_ok]
  rfl
theorem sT_61 (hq : 0 ≤ q) (hqt : q < t) (hw : (w.1 : Int) = t) (hs : (wS w q).1 = 0) : R (d + 2) M_X0_init 61 [(2, q), (3, 0), (3, 0)] [] w m K = R (d + 2) M_X0_init 74 [(2, q), (3, 0), (3, 0)] [] (wTb w q 4 t 8) (mTb w m t 4 2) K := by
  unfold wTb mTb
  rw [s_X0_init_61]
  simp (disch := first | assumption | omega | (simp (disch := omega) only [gU_row, gU_same, gU_i, gCp_row] <;> omega)) only [e_X0_init, s_X0_init_0, s_X0_init_1, s_X0_init_4, s_X0_init_5, s_X0_init_8, s_X0_init_9, s_X0_init_10, s_X0_init_12, s_X0_init_15, s_X0_init_18, s_X0_init_19, s_X0_init_22, s_X0_init_23, s_X0_init_25, s_X0_init_26, s_X0_init_29, s_X0_init_32, s_X0_init_33, s_X0_init_36, s_X0_init_37, s_X0_init_39, s_X0_init_41, s_X0_init_44, s_X0_init_47, s_X0_init_48, s_X0_init_51, s_X0_init_52, s_X0_init_54, s_X0_init_55, s_X0_init_58, s_X0_init_61, s_X0_init_62, s_X0_init_65, s_X0_init_66, s_X0_init_67, s_X0_init_68, s_X0_init_71, s_X0_init_75, s_X0_init_78, s_X0_init_79, s_X0_init_81, s_X0_init_82, s_X0_init_85, s_X0_init_88, s_X0_init_89, s_X0_init_91, s_X0_init_92, s_X0_init_95, s_X0_init_96, s_X0_init_99, s_X0_init_102, s_X0_init_103, s_X0_init_104, s_X0_init_106, s_X0_init_108, s_X0_init_111, s_X0_init_112, s_X0_init_115, s_X0_init_116, s_X0_init_117, s_X0_init_120, s_X0_init_121, s_X0_init_122, s_X0_init_125, s_X0_init_128, s_X0_init_131, s_X0_init_134, s_X0_init_137, e_X5_init, s_X5_init_0, s_X5_init_1, s_X5_init_4, s_X5_init_5, s_X5_init_6, s_X5_init_9, s_X5_init_10, s_X5_init_11, s_X5_init_14, s_X5_init_15, s_X5_init_16, s_X5_init_17, s_X5_init_18, s_X5_init_20, s_X5_init_23, s_X5_init_24, s_X5_init_25, s_X5_init_28, ↓reduceIte, Option.toList_some, Option.toList_none, List.cons_append, List.nil_append, List.singleton_append, List.append_nil, true_and, and_true, true_or, or_true, andT, iteT, iteF, itT, itF, wNew_1, wPut_1, wS_new, wS_pt, hw, hs, imul_ok]
  rfl
theorem sT_74 (hq : 0 ≤ q) (hqt : q < t) (hw : (w.1 : Int) = t) (hs : (wS w q).1 = 0) : R (d + 2) M_X0_init 74 [(2, q), (3, 0), (3, 0)] [] w m K = R (d + 2) M_X0_init 88 [(2, q), (3, 0), (3, 0)] [] (wTb w q 5 t 16) (mTb w m t 8 2) K := by
  unfold wTb mTb
  rw [s_X0_init_74]
  simp (disch := first | assumption | omega | (simp (disch := omega) only [gU_row, gU_same, gU_i, gCp_row] <;> omega)) only [e_X0_init, s_X0_init_0, s_X0_init_1, s_X0_init_4, s_X0_init_5, s_X0_init_8, s_X0_init_9, s_X0_init_10, s_X0_init_12, s_X0_init_15, s_X0_init_18, s_X0_init_19, s_X0_init_22, s_X0_init_23, s_X0_init_25, s_X0_init_26, s_X0_init_29, s_X0_init_32, s_X0_init_33, s_X0_init_36, s_X0_init_37, s_X0_init_39, s_X0_init_41, s_X0_init_44, s_X0_init_47, s_X0_init_48, s_X0_init_51, s_X0_init_52, s_X0_init_54, s_X0_init_55, s_X0_init_58, s_X0_init_61, s_X0_init_62, s_X0_init_65, s_X0_init_66, s_X0_init_67, s_X0_init_68, s_X0_init_71, s_X0_init_74, s_X0_init_75, s_X0_init_78, s_X0_init_79, s_X0_init_81, s_X0_init_82, s_X0_init_85, s_X0_init_89, s_X0_init_91, s_X0_init_92, s_X0_init_95, s_X0_init_96, s_X0_init_99, s_X0_init_102, s_X0_init_103, s_X0_init_104, s_X0_init_106, s_X0_init_108, s_X0_init_111, s_X0_init_112, s_X0_init_115, s_X0_init_116, s_X0_init_117, s_X0_init_120, s_X0_init_121, s_X0_init_122, s_X0_init_125, s_X0_init_128, s_X0_init_131, s_X0_init_134, s_X0_init_137, e_X5_init, s_X5_init_0, s_X5_init_1, s_X5_init_4, s_X5_init_5, s_X5_init_6, s_X5_init_9, s_X5_init_10, s_X5_init_11, s_X5_init_14, s_X5_init_15, s_X5_init_16, s_X5_init_17, s_X5_init_18, s_X5_init_20, s_X5_init_23, s_X5_init_24, s_X5_init_25, s_X5_init_28, ↓reduceIte, Option.toList_some, Option.toList_none, List.cons_append, List.nil_append, List.singleton_append, List.append_nil, true_and, and_true, true_or, or_true, andT, iteT, iteF, itT, itF, wNew_1, wPut_1, wS_new, wS_pt, hw, hs, imul_ok]
  rfl
theorem sT_s (hw : (w.1 : Int) = t) (hqt : x < t) (hs : (wS w x).1 = n) : (wS (wTb w q i t N) x).1 = n := by
  rw [wTb_S hw, if_neg (by omega), if_neg (by omega)]
  exact hs
set_option maxHeartbeats 1000000 in
theorem i_X0 (hq : BB q) (hw : (w.1 : Int) = q + 1) (hs : (wS w q).1 = 0) (h3 : wS w (-3) = (100, 6)) (hm3 : ∀ i, m (-3) i = lk [100, 20, 1, 10, 2, 1] i) (hk : ∀ m' w', w' = wR (oBk q) w → (w'.1 : Int) = q + 13 → BK m' q bk0 → (∀ a, a ≤ q ∨ q + 12 < a → m' a = m a) → K none w' m') : C (d + 3) M_X0_init [(2, q)] w m K := by
  have q0 : 2 ≤ q := by rcases hq with rfl | rfl | rfl <;> omega
  have w1 : ((wTb w q 0 (q + 1) 30).1 : Int) = q + 3 := by rw [wTb_1, hw]; omega
  have a1 := sT_s (n := 0) (x := q) (q := q) (i := 0) (N := 30) hw (by omega) hs
  rw [e_X0_init]
  simp (disch := first | assumption | omega | (simp (disch := omega) only [gU_row, gU_same, gU_i, gCp_row] <;> omega)) only [e_X0_init, s_X0_init_0, s_X0_init_1, s_X0_init_5, s_X0_init_8, s_X0_init_9, s_X0_init_10, s_X0_init_12, s_X0_init_15, s_X0_init_18, s_X0_init_19, s_X0_init_22, s_X0_init_23, s_X0_init_25, s_X0_init_26, s_X0_init_29, s_X0_init_32, s_X0_init_33, s_X0_init_36, s_X0_init_37, s_X0_init_39, s_X0_init_41, s_X0_init_44, s_X0_init_47, s_X0_init_48, s_X0_init_51, s_X0_init_52, s_X0_init_54, s_X0_init_55, s_X0_init_58, s_X0_init_61, s_X0_init_62, s_X0_init_65, s_X0_init_66, s_X0_init_67, s_X0_init_68, s_X0_init_71, s_X0_init_74, s_X0_init_75, s_X0_init_78, s_X0_init_79, s_X0_init_81, s_X0_init_82, s_X0_init_85, s_X0_init_88, s_X0_init_89, s_X0_init_90, s_X0_init_91, s_X0_init_92, s_X0_init_95, s_X0_init_96, s_X0_init_99, s_X0_init_102, s_X0_init_103, s_X0_init_104, s_X0_init_105, s_X0_init_106, s_X0_init_108, s_X0_init_111, s_X0_init_112, s_X0_init_115, s_X0_init_116, s_X0_init_117, s_X0_init_120, s_X0_init_121, s_X0_init_122, s_X0_init_125, s_X0_init_128, s_X0_init_131, s_X0_init_134, s_X0_init_137, ↓reduceIte, Option.toList_some, Option.toList_none, List.cons_append, List.nil_append, List.singleton_append, List.append_nil, true_and, and_true, true_or, or_true, andT, iteT, iteF, itT, itF, wNew_1]
  rw [sT_4 (by omega) (by omega) hw hs]
  generalize hW1 : wTb w q 0 (q + 1) 30 = W1 at *
  generalize hM1 : mTb w m (q + 1) 5 6 = M1
  have w2 : ((wTb W1 q 1 (q + 3) 24).1 : Int) = q + 5 := by rw [wTb_1, w1]; omega
  have a2 := sT_s (n := 0) (x := q) (q := q) (i := 1) (N := 24) w1 (by omega) a1
  rw [sT_18 (by omega) (by omega) w1 a1]
  generalize hW2 : wTb W1 q 1 (q + 3) 24 = W2 at *
  generalize hM2 : mTb W1 M1 (q + 3) 8 3 = M2
  have w3 : ((wTb W2 q 2 (q + 5) 36).1 : Int) = q + 7 := by rw [wTb_1, w2]; omega
  have a3 := sT_s (n := 0) (x := q) (q := q) (i := 2) (N := 36) w2 (by omega) a2
  rw [sT_32 (by omega) (by omega) w2 a2]
  generalize hW3 : wTb W2 q 2 (q + 5) 36 = W3 at *
  generalize hM3 : mTb W2 M2 (q + 5) 6 6 = M3
  have w4 : ((wTb W3 q 3 (q + 7) 120).1 : Int) = q + 9 := by rw [wTb_1, w3]; omega
  have a4 := sT_s (n := 0) (x := q) (q := q) (i := 3) (N := 120) w3 (by omega) a3
  rw [sT_47 (by omega) (by omega) w3 a3]
  generalize hW4 : wTb W3 q 3 (q + 7) 120 = W4 at *
  generalize hM4 : mTb W3 M3 (q + 7) 24 5 = M4
  have w5 : ((wTb W4 q 4 (q + 9) 8).1 : Int) = q + 11 := by rw [wTb_1, w4]; omega
  have a5 := sT_s (n := 0) (x := q) (q := q) (i := 4) (N := 8) w4 (by omega) a4
  rw [sT_61 (by omega) (by omega) w4 a4]
  generalize hW5 : wTb W4 q 4 (q + 9) 8 = W5 at *
  generalize hM5 : mTb W4 M4 (q + 9) 4 2 = M5
  have w6 : ((wTb W5 q 5 (q + 11) 16).1 : Int) = q + 13 := by rw [wTb_1, w5]; omega
  have a6 := sT_s (n := 0) (x := q) (q := q) (i := 5) (N := 16) w5 (by omega) a5
  rw [sT_74 (by omega) (by omega) w5 a5]
  generalize hW6 : wTb W5 q 5 (q + 11) 16 = W6 at *
  generalize hM6 : mTb W5 M5 (q + 11) 8 2 = M6
  have S : ∀ x, x ≤ q + 2 → wS W6 x = wS W1 x := fun x hx => by
    rw [← hW6, wTb_S w5, if_neg (by omega), if_neg (by omega), ← hW5, wTb_S w4, if_neg (by omega), if_neg (by omega), ← hW4, wTb_S w3, if_neg (by omega), if_neg (by omega), ← hW3, wTb_S w2, if_neg (by omega), if_neg (by omega), ← hW2, wTb_S w1, if_neg (by omega), if_neg (by omega)]
  have P : ∀ x j, x ≤ q + 2 → (x = q → j = 0) → wP W6 x j = wP W1 x j := fun x j hx hj => by
    rw [← hW6, wTb_P w5, if_neg (by omega), if_neg (by omega), if_neg (by omega), if_neg (by omega), ← hW5, wTb_P w4, if_neg (by omega), if_neg (by omega), if_neg (by omega), if_neg (by omega), ← hW4, wTb_P w3, if_neg (by omega), if_neg (by omega), if_neg (by omega), if_neg (by omega), ← hW3, wTb_P w2, if_neg (by omega), if_neg (by omega), if_neg (by omega), if_neg (by omega), ← hW2, wTb_P w1, if_neg (by omega), if_neg (by omega), if_neg (by omega), if_neg (by omega)]
  have r6 : ∀ a, a ≠ q + 11 → a ≠ q + 12 → M6 a = M5 a := fun a h1 h2 => by rw [← hM6]; exact mTb_r w5 h1 (by omega)
  have r5 : ∀ a, a ≠ q + 9 → a ≠ q + 10 → M5 a = M4 a := fun a h1 h2 => by rw [← hM5]; exact mTb_r w4 h1 (by omega)
  have r4 : ∀ a, a ≠ q + 7 → a ≠ q + 8 → M4 a = M3 a := fun a h1 h2 => by rw [← hM4]; exact mTb_r w3 h1 (by omega)
  have r3 : ∀ a, a ≠ q + 5 → a ≠ q + 6 → M3 a = M2 a := fun a h1 h2 => by rw [← hM3]; exact mTb_r w2 h1 (by omega)
  have r2 : ∀ a, a ≠ q + 3 → a ≠ q + 4 → M2 a = M1 a := fun a h1 h2 => by rw [← hM2]; exact mTb_r w1 h1 (by omega)
  have r1 : ∀ a, a ≠ q + 1 → a ≠ q + 2 → M1 a = m a := fun a h1 h2 => by rw [← hM1]; exact mTb_r hw h1 (by omega)
  have R1 : ∀ a, a ≤ q + 2 → M6 a = M1 a := fun a h => by rw [r6 a (by omega) (by omega), r5 a (by omega) (by omega), r4 a (by omega) (by omega), r3 a (by omega) (by omega), r2 a (by omega) (by omega)]
  have main : R (d + 2) M_X0_init 90 [(2, q), (0, 0), (3, 0)] [] W6 M6 K := by
    refine i_gr (q := q) (by omega) a6 ?_ ?_ ?_ ?_ ?_ (fun i => ?_) ?_ ?_ ?_ (fun i => ?_) (fun m1 f1 f2 f3 f4 f5 => ?_)
    · rw [P q 0 (by omega) (by omega), ← hW1, wTb_P hw, if_pos ⟨rfl, rfl⟩]
    · rw [S (q + 1) (by omega), ← hW1, wTb_S hw, if_neg (by omega), if_pos rfl]
    · rw [P (q + 1) 2 (by omega) (by omega), ← hW1, wTb_P hw, if_neg (by omega), if_pos ⟨rfl, rfl⟩]; omega
    · rw [S (q + 2) (by omega), ← hW1, wTb_S hw, if_pos (by omega)]
    · rw [S (-3) (by omega), ← hW1, wTb_S hw, if_neg (by omega), if_neg (by omega)]; exact h3
    · rw [R1 (-3) (by omega), r1 (-3) (by omega) (by omega)]; exact hm3 i
    · rw [R1 (q + 1) (by omega), ← hM1]; exact mTb_0 hw
    · rw [R1 (q + 1) (by omega), ← hM1]; exact mTb_1 hw
    · rw [R1 (q + 1) (by omega), ← hM1]; exact mTb_3
    · rw [R1 (q + 2) (by omega), ← hM1, mTb_z hw (by omega)]
    · have t3 : m1 (q + 3) = mTb W1 M1 (q + 3) 8 3 (q + 3) := by rw [f1 _ (by omega) (by omega), r6 _ (by omega) (by omega), r5 _ (by omega) (by omega), r4 _ (by omega) (by omega), r3 _ (by omega) (by omega), hM2]
      have t5 : m1 (q + 5) = mTb W2 M2 (q + 5) 6 6 (q + 5) := by rw [f1 _ (by omega) (by omega), r6 _ (by omega) (by omega), r5 _ (by omega) (by omega), r4 _ (by omega) (by omega), hM3]
      have t7 : m1 (q + 7) = mTb W3 M3 (q + 7) 24 5 (q + 7) := by rw [f1 _ (by omega) (by omega), r6 _ (by omega) (by omega), r5 _ (by omega) (by omega), hM4]
      have t9 : m1 (q + 9) = mTb W4 M4 (q + 9) 4 2 (q + 9) := by rw [f1 _ (by omega) (by omega), r6 _ (by omega) (by omega), hM5]
      have t11 : m1 (q + 11) = mTb W5 M5 (q + 11) 8 2 (q + 11) := by rw [f1 _ (by omega) (by omega), hM6]
      have z3 : m1 (q + 3) 3 = 0 := by rw [t3]; exact mTb_3
      have z5 : m1 (q + 5) 3 = 0 := by rw [t5]; exact mTb_3
      have z7 : m1 (q + 7) 3 = 0 := by rw [t7]; exact mTb_3
      have z9 : m1 (q + 9) 3 = 0 := by rw [t9]; exact mTb_3
      have z11 : m1 (q + 11) 3 = 0 := by rw [t11]; exact mTb_3
      refine hk m1 W6 ?_ w6 (bk0_eq ⟨⟨⟨f2, f3⟩, ⟨by rw [t3]; exact mTb_0 w1, by rw [t3]; exact mTb_1 w1⟩, ⟨by rw [t5]; exact mTb_0 w2, by rw [t5]; exact mTb_1 w2⟩, ⟨by rw [t7]; exact mTb_0 w3, by rw [t7]; exact mTb_1 w3⟩, ⟨by rw [t9]; exact mTb_0 w4, by rw [t9]; exact mTb_1 w4⟩, by rw [t11]; exact mTb_0 w5, by rw [t11]; exact mTb_1 w5⟩, f4, by omega, by omega, by omega, by omega, by omega⟩ z3 z5 z7 z9 z11 f5) (fun a ha => ?_)
      · rw [← hW6, ← hW5, ← hW4, ← hW3, ← hW2, ← hW1, oBk, wR_app, wR_app, wR_app, wR_app, wR_app]
        unfold wTb
        rw [show q + 1 + 1 = q + 2 by omega, show q + 3 + 1 = q + 4 by omega, show q + 5 + 1 = q + 6 by omega, show q + 7 + 1 = q + 8 by omega, show q + 9 + 1 = q + 10 by omega, show q + 11 + 1 = q + 12 by omega]
        rfl
      · rw [f1 a (by omega) (by omega), r6 a (by omega) (by omega), r5 a (by omega) (by omega), r4 a (by omega) (by omega), r3 a (by omega) (by omega), r2 a (by omega) (by omega), r1 a (by omega) (by omega)]
  rw [s_X0_init_88]
  simp (disch := first | assumption | omega | (simp (disch := omega) only [gU_row, gU_same, gU_i, gCp_row] <;> omega)) only [e_X0_init, s_X0_init_0, s_X0_init_1, s_X0_init_4, s_X0_init_5, s_X0_init_8, s_X0_init_9, s_X0_init_10, s_X0_init_12, s_X0_init_15, s_X0_init_18, s_X0_init_19, s_X0_init_22, s_X0_init_23, s_X0_init_25, s_X0_init_26, s_X0_init_29, s_X0_init_32, s_X0_init_33, s_X0_init_36, s_X0_init_37, s_X0_init_39, s_X0_init_41, s_X0_init_44, s_X0_init_47, s_X0_init_48, s_X0_init_51, s_X0_init_52, s_X0_init_54, s_X0_init_55, s_X0_init_58, s_X0_init_61, s_X0_init_62, s_X0_init_65, s_X0_init_66, s_X0_init_67, s_X0_init_68, s_X0_init_71, s_X0_init_74, s_X0_init_75, s_X0_init_78, s_X0_init_79, s_X0_init_81, s_X0_init_82, s_X0_init_85, s_X0_init_88, s_X0_init_89, s_X0_init_91, s_X0_init_92, s_X0_init_95, s_X0_init_96, s_X0_init_99, s_X0_init_102, s_X0_init_103, s_X0_init_104, s_X0_init_106, s_X0_init_108, s_X0_init_111, s_X0_init_112, s_X0_init_115, s_X0_init_116, s_X0_init_117, s_X0_init_120, s_X0_init_121, s_X0_init_122, s_X0_init_125, s_X0_init_128, s_X0_init_131, s_X0_init_134, s_X0_init_137, ↓reduceIte, Option.toList_some, Option.toList_none, List.cons_append, List.nil_append, List.singleton_append, List.append_nil, true_and, and_true, true_or, or_true, andT, iteT, iteF, itT, itF, iadd_ok]
  exact main
end INI1
