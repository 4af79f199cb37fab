/-! A RECKONING: charges. -/
def fw (x : Int) : Int := if x < 0 then lneg (fitv (lneg x)) else fitv x
def fwa (x : Int) : Int := if x < 0 then lneg x else x
theorem fitv_bd (x : Int) : -2147483648 ≤ fitv x ∧ fitv x ≤ 2147483647 := by
  unfold fitv
  split <;> omega
theorem fw_bd (x : Int) : -2147483648 ≤ fw x ∧ fw x ≤ 2147483648 := by
  unfold fw
  have a := fitv_bd (lneg x)
  have c := fitv_bd x
  split
  · rw [lneg_ok (by omega) (by omega)]
    omega
  · omega
theorem fw_ok {x : Int} (h1 : -9000000000000000000 ≤ x) (h2 : okI (ab x)) : fw x = x := by
  unfold okI ab at h2
  unfold fw
  split
  · rename_i h
    rw [if_neg (by omega)] at h2
    have e : lneg x = -x := lneg_ok (by omega) (by omega)
    rw [e, fitv_ok ⟨by omega, by omega⟩, lneg_ok (by omega) (by omega)]
    omega
  · rename_i h
    rw [if_pos (by omega)] at h2
    exact fitv_ok h2
theorem fwa_ok {x : Int} (h1 : -9000000000000000000 ≤ x) (h2 : x ≤ 9000000000000000000) : fwa x = ab x := by
  unfold fwa ab
  split
  · rw [lneg_ok (by omega) (by omega), if_neg (by omega)]
  · rw [if_pos (by omega)]
def pm (x : Int → Int) (e f : Int) : Int := if x e < 0 ∧ 0 < x f then min (-(x e)) (x f) else if 0 < x e ∧ x f < 0 then min (x e) (-(x f)) else 0
def px (x : Int → Int) (e f : Int) : Int → Int := fun i => if i = e then (if x e < 0 then x e + pm x e f else x e - pm x e f) else if i = f then (if x f < 0 then x f + pm x e f else x f - pm x e f) else x i
def chStep (sp gap e : Int) (st : (Int → Int) × Int) : (Int → Int) × Int := (px st.1 e (e + gap), st.2 + td (pm st.1 e (e + gap) * sp * gap) 10)
def chO (sp : Int) (x : Int → Int) : Nat → (Int → Int) × Int
  | 0 => (x, 0)
  | k + 1 => it (chStep sp (k + 1)) (chO sp x k) (5 - k)
def chA (sp : Int) (x : Int → Int) (k e : Nat) : (Int → Int) × Int := it (chStep sp (k + 1)) (chO sp x k) e
def chC (sp : Int) (x : Int → Int) (k e : Nat) : Prop := okI (pm (chA sp x k e).1 e (e + (k + 1)) * sp) ∧ okI (pm (chA sp x k e).1 e (e + (k + 1)) * sp * (k + 1))
def ChOk (sp : Int) (x : Int → Int) : Prop := (∀ k e : Nat, k < 5 → e < 5 - k → chC sp x k e) ∧ okI (chO sp x 5).2
def B6 (x : Int → Int) : Prop := ∀ i, 0 ≤ i → i < 6 → -2147483648 ≤ x i ∧ x i ≤ 2147483648
theorem pm_bd {x : Int → Int} {e f : Int} (h : -2147483648 ≤ x e ∧ x e ≤ 2147483648) : 0 ≤ pm x e f ∧ pm x e f ≤ 2147483648 := by
  unfold pm
  split
  · omega
  · split <;> omega
theorem px_B6 {x : Int → Int} {e f : Int} (h : B6 x) (h0 : 0 ≤ e) (h1 : e < 6) (h2 : 0 ≤ f) (h3 : f < 6) : B6 (px x e f) := by
  intro i i0 i1
  have a := h i i0 i1
  have ae := h e h0 h1
  have af := h f h2 h3
  have b : pm x e f ≤ 0 ∨ (x e < 0 ∧ 0 < x f ∧ pm x e f ≤ -(x e) ∧ pm x e f ≤ x f) ∨ (0 < x e ∧ x f < 0 ∧ pm x e f ≤ x e ∧ pm x e f ≤ -(x f)) := by
    unfold pm
    split
    · omega
    · split <;> omega
  have c := pm_bd (f := f) ae
  unfold px
  repeat' split
  all_goals omega
theorem chIt_B6 {sp gap : Int} {st : (Int → Int) × Int} (h : B6 st.1) (hg : 0 ≤ gap) : ∀ n : Nat, (n : Int) + gap ≤ 6 → B6 (it (chStep sp gap) st n).1 := by
  intro n
  induction n with
  | zero => intro _; exact h
  | succ n ih =>
    intro hn
    exact px_B6 (ih (by omega)) (by omega) (by omega) (by omega) (by omega)
theorem chO_B6 {sp : Int} {x : Int → Int} (h : B6 x) : ∀ k : Nat, k ≤ 5 → B6 (chO sp x k).1 := by
  intro k
  induction k with
  | zero => intro _; exact h
  | succ k ih =>
    intro hk
    exact chIt_B6 (ih (by omega)) (by omega) _ (by omega)
theorem chA_B6 {sp : Int} {x : Int → Int} (h : B6 x) {k e : Nat} (hk : k ≤ 5) (he : e + k ≤ 5) : B6 (chA sp x k e).1 := chIt_B6 (chO_B6 h k hk) (by omega) e (by omega)
def Ag (x y : Int → Int) : Prop := ∀ i, 0 ≤ i → i < 6 → x i = y i
theorem Ag_pm {x y : Int → Int} {e f : Int} (h : Ag x y) (h0 : 0 ≤ e) (h1 : e < 6) (h2 : 0 ≤ f) (h3 : f < 6) : pm x e f = pm y e f := by
  unfold pm
  rw [h e h0 h1, h f h2 h3]
theorem Ag_px {x y : Int → Int} {e f : Int} (h : Ag x y) (h0 : 0 ≤ e) (h1 : e < 6) (h2 : 0 ≤ f) (h3 : f < 6) : Ag (px x e f) (px y e f) := by
  intro i i0 i1
  unfold px
  rw [h e h0 h1, h f h2 h3, h i i0 i1, Ag_pm h h0 h1 h2 h3]
theorem Ag_B6 {x y : Int → Int} (h : Ag x y) (hb : B6 y) : B6 x := fun i i0 i1 => by rw [h i i0 i1]; exact hb i i0 i1
theorem chIt_bd {sp gap : Int} {st : (Int → Int) × Int} : ∀ n : Nat, (∀ e : Nat, e < n → okI (pm (it (chStep sp gap) st e).1 e (e + gap) * sp * gap)) → st.2 - 214748365 * n ≤ (it (chStep sp gap) st n).2 ∧ (it (chStep sp gap) st n).2 ≤ st.2 + 214748365 * n := by
  intro n
  induction n with
  | zero => intro _; simp [it]
  | succ n ih =>
    intro h
    have a := ih (fun e he => h e (by omega))
    have c := h n (by omega)
    unfold okI at c
    have e : (it (chStep sp gap) st (n + 1)).2 = (it (chStep sp gap) st n).2 + td (pm (it (chStep sp gap) st n).1 n (n + gap) * sp * gap) 10 := rfl
    rw [e]
    have t : -214748365 ≤ td (pm (it (chStep sp gap) st n).1 n (n + gap) * sp * gap) 10 ∧ td (pm (it (chStep sp gap) st n).1 n (n + gap) * sp * gap) 10 ≤ 214748365 := by
      unfold td
      split <;> omega
    omega
theorem chO_bd {sp : Int} {x : Int → Int} : ∀ k : Nat, k ≤ 5 → (∀ k' e : Nat, k' < k → e < 5 - k' → chC sp x k' e) → -(1100000000 * (k : Int)) ≤ (chO sp x k).2 ∧ (chO sp x k).2 ≤ 1100000000 * k := by
  intro k
  induction k with
  | zero => intro _ _; simp [chO]
  | succ k ih =>
    intro hk h
    have a := ih (by omega) (fun k' e h1 h2 => h k' e (by omega) h2)
    have c := chIt_bd (sp := sp) (gap := k + 1) (st := chO sp x k) (5 - k) (fun e he => (h k e (by omega) he).2)
    have e : (chO sp x (k + 1)).2 = (it (chStep sp (k + 1)) (chO sp x k) (5 - k)).2 := rfl
    rw [e]
    omega
theorem chA_bd {sp : Int} {x : Int → Int} {k n : Nat} (hk : k ≤ 5) (hn : n ≤ 5 - k) (h : ∀ k' e : Nat, (k' < k ∨ (k' = k ∧ e < n)) → e < 5 - k' → chC sp x k' e) : -7000000000 ≤ (chA sp x k n).2 ∧ (chA sp x k n).2 ≤ 7000000000 := by
  have a := chO_bd (sp := sp) (x := x) k hk (fun k' e h1 h2 => h k' e (Or.inl h1) h2)
  have c := chIt_bd (sp := sp) (gap := k + 1) (st := chO sp x k) n (fun e he => (h k e (Or.inr ⟨rfl, he⟩) (by omega)).2)
  unfold chA
  omega
section RECK3
variable {L d N : Nat} {z X Y q r x y v t c n g j k e s : Int} {w : gW} {m : gM} {K : Option gV → gW → gM → Prop} {b b' : Bk} {xs : Int → Int} {F Q : Prop}
theorem c_fitW (hr : RB r) : C (d + 2) M_X3_fitWithoutSign [(2, r), (1, x)] (w0 L z X Y) m K = K (some (1, fw x)) (w0 L z X Y) (fitm m (r + 86) (fwa x)) := by
  unfold fw fwa
  by_cases hx : x < 0
  · simp (disch := first | assumption | omega | (simp (disch := omega) only [gU_row, gU_same, gU_i, gCp_row] <;> omega)) only [e_X3_fitWithoutSign, s_X3_fitWithoutSign_0, s_X3_fitWithoutSign_1, s_X3_fitWithoutSign_2, s_X3_fitWithoutSign_3, s_X3_fitWithoutSign_6, s_X3_fitWithoutSign_7, s_X3_fitWithoutSign_10, s_X3_fitWithoutSign_11, s_X3_fitWithoutSign_12, s_X3_fitWithoutSign_15, s_X3_fitWithoutSign_16, s_X3_fitWithoutSign_19, s_X3_fitWithoutSign_20, s_X3_fitWithoutSign_23, s_X3_fitWithoutSign_24, s_X3_fitWithoutSign_27, ↓reduceIte, Option.toList_some, Option.toList_none, List.cons_append, List.nil_append, List.singleton_append, List.append_nil, true_and, and_true, true_or, or_true, andT, iteT, iteF, itT, itF, zS_r0 hr, zP_r0_0 hr, zP_r0_1 hr, zP_r0_2 hr, zP_r0_3 hr, zP_r0_4 hr, zP_r0_5 hr, zP_r0_6 hr, zP_r0_7 hr, zP_r0_8 hr, zP_r0_9 hr, zP_r0_10 hr, zP_r0_11 hr, zP_r0_12 hr, zP_r0_13 hr, zP_r0_14 hr, zP_r0_15 hr, zS_r14 hr, zP_r14_1 hr, zP_r14_2 hr, zP_r14_3 hr, zP_r14_4 hr, zP_r14_6 hr, zP_r14_7 hr, zP_r14_8 hr, zP_r14_9 hr, zP_r14_10 hr, zP_r14_11 hr, zP_r14_12 hr, zP_r14_13 hr, zP_r14_14 hr, zP_r14_15 hr, zS_r15 hr, zS_r16 hr, zS_r17 hr, zS_r18 hr, zS_r19 hr, zS_r20 hr, zS_r21 hr, zS_r22 hr, zS_r23 hr, zS_r24 hr, zS_r25 hr, zS_r26 hr, zS_r27 hr, zS_r28 hr, zS_r29 hr, zS_r54 hr, zS_r55 hr, zS_r61 hr, zS_r67 hr, zS_r68 hr, zS_r69 hr, zS_r70 hr, zS_r71 hr, zS_r72 hr, zS_r73 hr, zS_r79 hr, zS_r85 hr, zS_r86 hr, c_fit hr, lcmp_ge]
  · simp (disch := first | assumption | omega | (simp (disch := omega) only [gU_row, gU_same, gU_i, gCp_row] <;> omega)) only [e_X3_fitWithoutSign, s_X3_fitWithoutSign_0, s_X3_fitWithoutSign_1, s_X3_fitWithoutSign_2, s_X3_fitWithoutSign_3, s_X3_fitWithoutSign_6, s_X3_fitWithoutSign_7, s_X3_fitWithoutSign_10, s_X3_fitWithoutSign_11, s_X3_fitWithoutSign_12, s_X3_fitWithoutSign_15, s_X3_fitWithoutSign_16, s_X3_fitWithoutSign_19, s_X3_fitWithoutSign_20, s_X3_fitWithoutSign_23, s_X3_fitWithoutSign_24, s_X3_fitWithoutSign_27, ↓reduceIte, Option.toList_some, Option.toList_none, List.cons_append, List.nil_append, List.singleton_append, List.append_nil, true_and, and_true, true_or, or_true, andT, iteT, iteF, itT, itF, zS_r0 hr, zP_r0_0 hr, zP_r0_1 hr, zP_r0_2 hr, zP_r0_3 hr, zP_r0_4 hr, zP_r0_5 hr, zP_r0_6 hr, zP_r0_7 hr, zP_r0_8 hr, zP_r0_9 hr, zP_r0_10 hr, zP_r0_11 hr, zP_r0_12 hr, zP_r0_13 hr, zP_r0_14 hr, zP_r0_15 hr, zS_r14 hr, zP_r14_1 hr, zP_r14_2 hr, zP_r14_3 hr, zP_r14_4 hr, zP_r14_6 hr, zP_r14_7 hr, zP_r14_8 hr, zP_r14_9 hr, zP_r14_10 hr, zP_r14_11 hr, zP_r14_12 hr, zP_r14_13 hr, zP_r14_14 hr, zP_r14_15 hr, zS_r15 hr, zS_r16 hr, zS_r17 hr, zS_r18 hr, zS_r19 hr, zS_r20 hr, zS_r21 hr, zS_r22 hr, zS_r23 hr, zS_r24 hr, zS_r25 hr, zS_r26 hr, zS_r27 hr, zS_r28 hr, zS_r29 hr, zS_r54 hr, zS_r55 hr, zS_r61 hr, zS_r67 hr, zS_r68 hr, zS_r69 hr, zS_r70 hr, zS_r71 hr, zS_r72 hr, zS_r73 hr, zS_r79 hr, zS_r85 hr, zS_r86 hr, c_fit hr, lcmp_ge]
set_option maxHeartbeats 400000 in
theorem c_paired (hr : RB r) (h0 : 0 ≤ e) (h1 : e < 6) (h2 : 0 ≤ t) (h3 : t < 6) (hne : e ≠ t) (hB : B6 (m (r + 85))) (hk : ∀ m', Fr (r + 85) (r + 85) m m' → m' (r + 85) = px (m (r + 85)) e t → K (some (1, pm (m (r + 85)) e t)) (w0 L z X Y) m') : C (d + 1) M_X3_paired [(2, r), (0, e), (0, t)] (w0 L z X Y) m K := by
  have hr0 : 1 ≤ r := by rcases hr with h | h <;> omega
  have be := hB e h0 h1
  have bt := hB t h2 h3
  have e1 : imin = imin := rfl
  have lm : ∀ a b : Int, imin a b = min a b := imin_eq
  unfold pm at hk
  by_cases hc : m (r + 85) e < 0 ∧ 0 < m (r + 85) t
  · rw [if_pos hc] at hk
    simp (disch := first | assumption | omega | (simp (disch := omega) only [gU_row, gU_same, gU_i, gCp_row] <;> omega)) only [e_X3_paired, s_X3_paired_0, s_X3_paired_1, s_X3_paired_4, s_X3_paired_5, s_X3_paired_6, s_X3_paired_7, s_X3_paired_8, s_X3_paired_11, s_X3_paired_12, s_X3_paired_15, s_X3_paired_16, s_X3_paired_17, s_X3_paired_18, s_X3_paired_19, s_X3_paired_22, s_X3_paired_23, s_X3_paired_26, s_X3_paired_27, s_X3_paired_28, s_X3_paired_29, s_X3_paired_30, s_X3_paired_33, s_X3_paired_34, s_X3_paired_35, s_X3_paired_38, s_X3_paired_39, s_X3_paired_40, s_X3_paired_43, s_X3_paired_44, s_X3_paired_45, s_X3_paired_46, s_X3_paired_47, s_X3_paired_48, s_X3_paired_49, s_X3_paired_50, s_X3_paired_53, s_X3_paired_54, s_X3_paired_55, s_X3_paired_56, s_X3_paired_57, s_X3_paired_58, s_X3_paired_59, s_X3_paired_60, s_X3_paired_61, s_X3_paired_62, s_X3_paired_65, s_X3_paired_66, s_X3_paired_67, s_X3_paired_68, s_X3_paired_69, s_X3_paired_72, s_X3_paired_73, s_X3_paired_76, s_X3_paired_77, s_X3_paired_78, s_X3_paired_79, s_X3_paired_80, s_X3_paired_83, s_X3_paired_84, s_X3_paired_87, s_X3_paired_88, s_X3_paired_89, s_X3_paired_90, s_X3_paired_93, s_X3_paired_94, s_X3_paired_95, s_X3_paired_96, s_X3_paired_99, s_X3_paired_100, s_X3_paired_101, s_X3_paired_104, s_X3_paired_105, s_X3_paired_106, s_X3_paired_107, s_X3_paired_108, s_X3_paired_109, s_X3_paired_110, s_X3_paired_111, s_X3_paired_114, s_X3_paired_115, s_X3_paired_116, s_X3_paired_117, s_X3_paired_118, s_X3_paired_119, s_X3_paired_120, s_X3_paired_121, s_X3_paired_122, s_X3_paired_123, ↓reduceIte, Option.toList_some, Option.toList_none, List.cons_append, List.nil_append, List.singleton_append, List.append_nil, true_and, and_true, true_or, or_true, andT, iteT, iteF, itT, itF, zS_r0 hr, zP_r0_0 hr, zP_r0_1 hr, zP_r0_2 hr, zP_r0_3 hr, zP_r0_4 hr, zP_r0_5 hr, zP_r0_6 hr, zP_r0_7 hr, zP_r0_8 hr, zP_r0_9 hr, zP_r0_10 hr, zP_r0_11 hr, zP_r0_12 hr, zP_r0_13 hr, zP_r0_14 hr, zP_r0_15 hr, zS_r14 hr, zP_r14_1 hr, zP_r14_2 hr, zP_r14_3 hr, zP_r14_4 hr, zP_r14_6 hr, zP_r14_7 hr, zP_r14_8 hr, zP_r14_9 hr, zP_r14_10 hr, zP_r14_11 hr, zP_r14_12 hr, zP_r14_13 hr, zP_r14_14 hr, zP_r14_15 hr, zS_r15 hr, zS_r16 hr, zS_r17 hr, zS_r18 hr, zS_r19 hr, zS_r20 hr, zS_r21 hr, zS_r22 hr, zS_r23 hr, zS_r24 hr, zS_r25 hr, zS_r26 hr, zS_r27 hr, zS_r28 hr, zS_r29 hr, zS_r54 hr, zS_r55 hr, zS_r61 hr, zS_r67 hr, zS_r68 hr, zS_r69 hr, zS_r70 hr, zS_r71 hr, zS_r72 hr, zS_r73 hr, zS_r79 hr, zS_r85 hr, zS_r86 hr, lcmp_lt, lcmp_le, lcmp_gt, lcmp_ge, lneg_ok, imin_eq, gU_i, gU_row]
    rw [ladd_ok (by omega) (by omega), lsub_ok (by omega) (by omega)]
    refine hk _ (fun a ha => by rw [gU_row (by omega), gU_row (by omega)]) ?_
    funext i
    unfold px pm
    rw [if_pos hc, gU_rw]
    by_cases hi : i = t
    · subst hi
      simp (disch := omega) only [↓reduceIte, itT, itF]
    · by_cases hi2 : i = e
      · subst hi2
        simp (disch := omega) only [↓reduceIte, itT, itF, gU_same]
      · simp (disch := omega) only [↓reduceIte, itT, itF, gU_i]
  · rw [if_neg hc] at hk
    by_cases hd : 0 < m (r + 85) e ∧ m (r + 85) t < 0
    · rw [if_pos hd] at hk
      simp (disch := first | assumption | omega | (simp (disch := omega) only [gU_row, gU_same, gU_i, gCp_row] <;> omega)) only [e_X3_paired, s_X3_paired_0, s_X3_paired_1, s_X3_paired_4, s_X3_paired_5, s_X3_paired_6, s_X3_paired_7, s_X3_paired_8, s_X3_paired_11, s_X3_paired_12, s_X3_paired_15, s_X3_paired_16, s_X3_paired_17, s_X3_paired_18, s_X3_paired_19, s_X3_paired_22, s_X3_paired_23, s_X3_paired_26, s_X3_paired_27, s_X3_paired_28, s_X3_paired_29, s_X3_paired_30, s_X3_paired_33, s_X3_paired_34, s_X3_paired_35, s_X3_paired_38, s_X3_paired_39, s_X3_paired_40, s_X3_paired_43, s_X3_paired_44, s_X3_paired_45, s_X3_paired_46, s_X3_paired_47, s_X3_paired_48, s_X3_paired_49, s_X3_paired_50, s_X3_paired_53, s_X3_paired_54, s_X3_paired_55, s_X3_paired_56, s_X3_paired_57, s_X3_paired_58, s_X3_paired_59, s_X3_paired_60, s_X3_paired_61, s_X3_paired_62, s_X3_paired_65, s_X3_paired_66, s_X3_paired_67, s_X3_paired_68, s_X3_paired_69, s_X3_paired_72, s_X3_paired_73, s_X3_paired_76, s_X3_paired_77, s_X3_paired_78, s_X3_paired_79, s_X3_paired_80, s_X3_paired_83, s_X3_paired_84, s_X3_paired_87, s_X3_paired_88, s_X3_paired_89, s_X3_paired_90, s_X3_paired_93, s_X3_paired_94, s_X3_paired_95, s_X3_paired_96, s_X3_paired_99, s_X3_paired_100, s_X3_paired_101, s_X3_paired_104, s_X3_paired_105, s_X3_paired_106, s_X3_paired_107, s_X3_paired_108, s_X3_paired_109, s_X3_paired_110, s_X3_paired_111, s_X3_paired_114, s_X3_paired_115, s_X3_paired_116, s_X3_paired_117, s_X3_paired_118, s_X3_paired_119, s_X3_paired_120, s_X3_paired_121, s_X3_paired_122, s_X3_paired_123, ↓reduceIte, Option.toList_some, Option.toList_none, List.cons_append, List.nil_append, List.singleton_append, List.append_nil, true_and, and_true, true_or, or_true, andT, iteT, iteF, itT, itF, zS_r0 hr, zP_r0_0 hr, zP_r0_1 hr, zP_r0_2 hr, zP_r0_3 hr, zP_r0_4 hr, zP_r0_5 hr, zP_r0_6 hr, zP_r0_7 hr, zP_r0_8 hr, zP_r0_9 hr, zP_r0_10 hr, zP_r0_11 hr, zP_r0_12 hr, zP_r0_13 hr, zP_r0_14 hr, zP_r0_15 hr, zS_r14 hr, zP_r14_1 hr, zP_r14_2 hr, zP_r14_3 hr, zP_r14_4 hr, zP_r14_6 hr, zP_r14_7 hr, zP_r14_8 hr, zP_r14_9 hr, zP_r14_10 hr, zP_r14_11 hr, zP_r14_12 hr, zP_r14_13 hr, zP_r14_14 hr, zP_r14_15 hr, zS_r15 hr, zS_r16 hr, zS_r17 hr, zS_r18 hr, zS_r19 hr, zS_r20 hr, zS_r21 hr, zS_r22 hr, zS_r23 hr, zS_r24 hr, zS_r25 hr, zS_r26 hr, zS_r27 hr, zS_r28 hr, zS_r29 hr, zS_r54 hr, zS_r55 hr, zS_r61 hr, zS_r67 hr, zS_r68 hr, zS_r69 hr, zS_r70 hr, zS_r71 hr, zS_r72 hr, zS_r73 hr, zS_r79 hr, zS_r85 hr, zS_r86 hr, lcmp_lt, lcmp_le, lcmp_gt, lcmp_ge, lneg_ok, imin_eq, gU_i, gU_row]
      rw [lsub_ok (by omega) (by omega), ladd_ok (by omega) (by omega)]
      refine hk _ (fun a ha => by rw [gU_row (by omega), gU_row (by omega)]) ?_
      funext i
      unfold px pm
      rw [if_neg hc, if_pos hd, gU_rw]
      by_cases hi : i = t
      · subst hi
        simp (disch := omega) only [↓reduceIte, itT, itF]
      · by_cases hi2 : i = e
        · subst hi2
          simp (disch := omega) only [↓reduceIte, itT, itF, gU_same]
        · simp (disch := omega) only [↓reduceIte, itT, itF, gU_i]
    · rw [if_neg hd] at hk
      have fin : K (some (1, 0)) (w0 L z X Y) m := by
        refine hk m Fr_refl ?_
        funext i
        unfold px pm
        rw [if_neg hc, if_neg hd]
        repeat' split
        all_goals first | omega | (subst_vars; omega)
      by_cases h1 : m (r + 85) e < 0
      · simp (disch := first | assumption | omega | (simp (disch := omega) only [gU_row, gU_same, gU_i, gCp_row] <;> omega)) only [e_X3_paired, s_X3_paired_0, s_X3_paired_1, s_X3_paired_4, s_X3_paired_5, s_X3_paired_6, s_X3_paired_7, s_X3_paired_8, s_X3_paired_11, s_X3_paired_12, s_X3_paired_15, s_X3_paired_16, s_X3_paired_17, s_X3_paired_18, s_X3_paired_19, s_X3_paired_22, s_X3_paired_23, s_X3_paired_26, s_X3_paired_27, s_X3_paired_28, s_X3_paired_29, s_X3_paired_30, s_X3_paired_33, s_X3_paired_34, s_X3_paired_35, s_X3_paired_38, s_X3_paired_39, s_X3_paired_40, s_X3_paired_43, s_X3_paired_44, s_X3_paired_45, s_X3_paired_46, s_X3_paired_47, s_X3_paired_48, s_X3_paired_49, s_X3_paired_50, s_X3_paired_53, s_X3_paired_54, s_X3_paired_55, s_X3_paired_56, s_X3_paired_57, s_X3_paired_58, s_X3_paired_59, s_X3_paired_60, s_X3_paired_61, s_X3_paired_62, s_X3_paired_65, s_X3_paired_66, s_X3_paired_67, s_X3_paired_68, s_X3_paired_69, s_X3_paired_72, s_X3_paired_73, s_X3_paired_76, s_X3_paired_77, s_X3_paired_78, s_X3_paired_79, s_X3_paired_80, s_X3_paired_83, s_X3_paired_84, s_X3_paired_87, s_X3_paired_88, s_X3_paired_89, s_X3_paired_90, s_X3_paired_93, s_X3_paired_94, s_X3_paired_95, s_X3_paired_96, s_X3_paired_99, s_X3_paired_100, s_X3_paired_101, s_X3_paired_104, s_X3_paired_105, s_X3_paired_106, s_X3_paired_107, s_X3_paired_108, s_X3_paired_109, s_X3_paired_110, s_X3_paired_111, s_X3_paired_114, s_X3_paired_115, s_X3_paired_116, s_X3_paired_117, s_X3_paired_118, s_X3_paired_119, s_X3_paired_120, s_X3_paired_121, s_X3_paired_122, s_X3_paired_123, ↓reduceIte, Option.toList_some, Option.toList_none, List.cons_append, List.nil_append, List.singleton_append, List.append_nil, true_and, and_true, true_or, or_true, andT, iteT, iteF, itT, itF, zS_r0 hr, zP_r0_0 hr, zP_r0_1 hr, zP_r0_2 hr, zP_r0_3 hr, zP_r0_4 hr, zP_r0_5 hr, zP_r0_6 hr, zP_r0_7 hr, zP_r0_8 hr, zP_r0_9 hr, zP_r0_10 hr, zP_r0_11 hr, zP_r0_12 hr, zP_r0_13 hr, zP_r0_14 hr, zP_r0_15 hr, zS_r14 hr, zP_r14_1 hr, zP_r14_2 hr, zP_r14_3 hr, zP_r14_4 hr, zP_r14_6 hr, zP_r14_7 hr, zP_r14_8 hr, zP_r14_9 hr, zP_r14_10 hr, zP_r14_11 hr, zP_r14_12 hr, zP_r14_13 hr, zP_r14_14 hr, zP_r14_15 hr, zS_r15 hr, zS_r16 hr, zS_r17 hr, zS_r18 hr, zS_r19 hr, zS_r20 hr, zS_r21 hr, zS_r22 hr, zS_r23 hr, zS_r24 hr, zS_r25 hr, zS_r26 hr, zS_r27 hr, zS_r28 hr, zS_r29 hr, zS_r54 hr, zS_r55 hr, zS_r61 hr, zS_r67 hr, zS_r68 hr, zS_r69 hr, zS_r70 hr, zS_r71 hr, zS_r72 hr, zS_r73 hr, zS_r79 hr, zS_r85 hr, zS_r86 hr, lcmp_lt, lcmp_le, lcmp_gt, lcmp_ge]
        exact fin
      · by_cases h2 : 0 < m (r + 85) e
        · simp (disch := first | assumption | omega | (simp (disch := omega) only [gU_row, gU_same, gU_i, gCp_row] <;> omega)) only [e_X3_paired, s_X3_paired_0, s_X3_paired_1, s_X3_paired_4, s_X3_paired_5, s_X3_paired_6, s_X3_paired_7, s_X3_paired_8, s_X3_paired_11, s_X3_paired_12, s_X3_paired_15, s_X3_paired_16, s_X3_paired_17, s_X3_paired_18, s_X3_paired_19, s_X3_paired_22, s_X3_paired_23, s_X3_paired_26, s_X3_paired_27, s_X3_paired_28, s_X3_paired_29, s_X3_paired_30, s_X3_paired_33, s_X3_paired_34, s_X3_paired_35, s_X3_paired_38, s_X3_paired_39, s_X3_paired_40, s_X3_paired_43, s_X3_paired_44, s_X3_paired_45, s_X3_paired_46, s_X3_paired_47, s_X3_paired_48, s_X3_paired_49, s_X3_paired_50, s_X3_paired_53, s_X3_paired_54, s_X3_paired_55, s_X3_paired_56, s_X3_paired_57, s_X3_paired_58, s_X3_paired_59, s_X3_paired_60, s_X3_paired_61, s_X3_paired_62, s_X3_paired_65, s_X3_paired_66, s_X3_paired_67, s_X3_paired_68, s_X3_paired_69, s_X3_paired_72, s_X3_paired_73, s_X3_paired_76, s_X3_paired_77, s_X3_paired_78, s_X3_paired_79, s_X3_paired_80, s_X3_paired_83, s_X3_paired_84, s_X3_paired_87, s_X3_paired_88, s_X3_paired_89, s_X3_paired_90, s_X3_paired_93, s_X3_paired_94, s_X3_paired_95, s_X3_paired_96, s_X3_paired_99, s_X3_paired_100, s_X3_paired_101, s_X3_paired_104, s_X3_paired_105, s_X3_paired_106, s_X3_paired_107, s_X3_paired_108, s_X3_paired_109, s_X3_paired_110, s_X3_paired_111, s_X3_paired_114, s_X3_paired_115, s_X3_paired_116, s_X3_paired_117, s_X3_paired_118, s_X3_paired_119, s_X3_paired_120, s_X3_paired_121, s_X3_paired_122, s_X3_paired_123, ↓reduceIte, Option.toList_some, Option.toList_none, List.cons_append, List.nil_append, List.singleton_append, List.append_nil, true_and, and_true, true_or, or_true, andT, iteT, iteF, itT, itF, zS_r0 hr, zP_r0_0 hr, zP_r0_1 hr, zP_r0_2 hr, zP_r0_3 hr, zP_r0_4 hr, zP_r0_5 hr, zP_r0_6 hr, zP_r0_7 hr, zP_r0_8 hr, zP_r0_9 hr, zP_r0_10 hr, zP_r0_11 hr, zP_r0_12 hr, zP_r0_13 hr, zP_r0_14 hr, zP_r0_15 hr, zS_r14 hr, zP_r14_1 hr, zP_r14_2 hr, zP_r14_3 hr, zP_r14_4 hr, zP_r14_6 hr, zP_r14_7 hr, zP_r14_8 hr, zP_r14_9 hr, zP_r14_10 hr, zP_r14_11 hr, zP_r14_12 hr, zP_r14_13 hr, zP_r14_14 hr, zP_r14_15 hr, zS_r15 hr, zS_r16 hr, zS_r17 hr, zS_r18 hr, zS_r19 hr, zS_r20 hr, zS_r21 hr, zS_r22 hr, zS_r23 hr, zS_r24 hr, zS_r25 hr, zS_r26 hr, zS_r27 hr, zS_r28 hr, zS_r29 hr, zS_r54 hr, zS_r55 hr, zS_r61 hr, zS_r67 hr, zS_r68 hr, zS_r69 hr, zS_r70 hr, zS_r71 hr, zS_r72 hr, zS_r73 hr, zS_r79 hr, zS_r85 hr, zS_r86 hr, lcmp_lt, lcmp_le, lcmp_gt, lcmp_ge]
          exact fin
        · simp (disch := first | assumption | omega | (simp (disch := omega) only [gU_row, gU_same, gU_i, gCp_row] <;> omega)) only [e_X3_paired, s_X3_paired_0, s_X3_paired_1, s_X3_paired_4, s_X3_paired_5, s_X3_paired_6, s_X3_paired_7, s_X3_paired_8, s_X3_paired_11, s_X3_paired_12, s_X3_paired_15, s_X3_paired_16, s_X3_paired_17, s_X3_paired_18, s_X3_paired_19, s_X3_paired_22, s_X3_paired_23, s_X3_paired_26, s_X3_paired_27, s_X3_paired_28, s_X3_paired_29, s_X3_paired_30, s_X3_paired_33, s_X3_paired_34, s_X3_paired_35, s_X3_paired_38, s_X3_paired_39, s_X3_paired_40, s_X3_paired_43, s_X3_paired_44, s_X3_paired_45, s_X3_paired_46, s_X3_paired_47, s_X3_paired_48, s_X3_paired_49, s_X3_paired_50, s_X3_paired_53, s_X3_paired_54, s_X3_paired_55, s_X3_paired_56, s_X3_paired_57, s_X3_paired_58, s_X3_paired_59, s_X3_paired_60, s_X3_paired_61, s_X3_paired_62, s_X3_paired_65, s_X3_paired_66, s_X3_paired_67, s_X3_paired_68, s_X3_paired_69, s_X3_paired_72, s_X3_paired_73, s_X3_paired_76, s_X3_paired_77, s_X3_paired_78, s_X3_paired_79, s_X3_paired_80, s_X3_paired_83, s_X3_paired_84, s_X3_paired_87, s_X3_paired_88, s_X3_paired_89, s_X3_paired_90, s_X3_paired_93, s_X3_paired_94, s_X3_paired_95, s_X3_paired_96, s_X3_paired_99, s_X3_paired_100, s_X3_paired_101, s_X3_paired_104, s_X3_paired_105, s_X3_paired_106, s_X3_paired_107, s_X3_paired_108, s_X3_paired_109, s_X3_paired_110, s_X3_paired_111, s_X3_paired_114, s_X3_paired_115, s_X3_paired_116, s_X3_paired_117, s_X3_paired_118, s_X3_paired_119, s_X3_paired_120, s_X3_paired_121, s_X3_paired_122, s_X3_paired_123, ↓reduceIte, Option.toList_some, Option.toList_none, List.cons_append, List.nil_append, List.singleton_append, List.append_nil, true_and, and_true, true_or, or_true, andT, iteT, iteF, itT, itF, zS_r0 hr, zP_r0_0 hr, zP_r0_1 hr, zP_r0_2 hr, zP_r0_3 hr, zP_r0_4 hr, zP_r0_5 hr, zP_r0_6 hr, zP_r0_7 hr, zP_r0_8 hr, zP_r0_9 hr, zP_r0_10 hr, zP_r0_11 hr, zP_r0_12 hr, zP_r0_13 hr, zP_r0_14 hr, zP_r0_15 hr, zS_r14 hr, zP_r14_1 hr, zP_r14_2 hr, zP_r14_3 hr, zP_r14_4 hr, zP_r14_6 hr, zP_r14_7 hr, zP_r14_8 hr, zP_r14_9 hr, zP_r14_10 hr, zP_r14_11 hr, zP_r14_12 hr, zP_r14_13 hr, zP_r14_14 hr, zP_r14_15 hr, zS_r15 hr, zS_r16 hr, zS_r17 hr, zS_r18 hr, zS_r19 hr, zS_r20 hr, zS_r21 hr, zS_r22 hr, zS_r23 hr, zS_r24 hr, zS_r25 hr, zS_r26 hr, zS_r27 hr, zS_r28 hr, zS_r29 hr, zS_r54 hr, zS_r55 hr, zS_r61 hr, zS_r67 hr, zS_r68 hr, zS_r69 hr, zS_r70 hr, zS_r71 hr, zS_r72 hr, zS_r73 hr, zS_r79 hr, zS_r85 hr, zS_r86 hr, lcmp_lt, lcmp_le, lcmp_gt, lcmp_ge]
          exact fin
set_option maxHeartbeats 800000 in
theorem c_charges (hr : RB r) (hb : BK m (r + 1) b) (hg : WfG b) (g0 : 0 ≤ g) (g1 : g < 5) (hB : B6 (m (r + 62 + g))) (hJ : J m r F Q) (hF : Q → F → ChOk ((b 0).2 g 4) (m (r + 62 + g))) (hk : ∀ v m', Fr (r + 85) (r + 86) m m' → -2147483648 ≤ v → v ≤ 2147483647 → J m' r F (Q ∧ ChOk ((b 0).2 g 4) (m (r + 62 + g)) ∧ v = (chO ((b 0).2 g 4) (m (r + 62 + g)) 5).2) → K (some (1, v)) (w0 L z X Y) m') : C (d + 2) M_X3_chargesOf [(2, r), (0, g)] (w0 L z X Y) m K := by
  have hq := BB_r hr
  have hr0 : 1 ≤ r := by rcases hr with h | h <;> omega
  have b0 := BK_b0 hb
  have bg := hg g g0 g1
  have hb1 : BK (gCp m (r + 62 + g) 0 (r + 85) 0 6) (r + 1) b := BK_fr hb (lo := r + 85) (hi := r + 85) (fun a ha => gCp_row (by omega)) (by omega)
  simp (disch := first | assumption | omega | (simp (disch := omega) only [gU_row, gU_same, gU_i, gCp_row] <;> omega)) only [e_X3_chargesOf, s_X3_chargesOf_0, s_X3_chargesOf_1, s_X3_chargesOf_4, s_X3_chargesOf_5, s_X3_chargesOf_6, s_X3_chargesOf_7, s_X3_chargesOf_8, s_X3_chargesOf_11, s_X3_chargesOf_12, s_X3_chargesOf_14, s_X3_chargesOf_17, s_X3_chargesOf_18, s_X3_chargesOf_21, s_X3_chargesOf_24, s_X3_chargesOf_25, s_X3_chargesOf_26, s_X3_chargesOf_29, s_X3_chargesOf_30, s_X3_chargesOf_31, s_X3_chargesOf_32, s_X3_chargesOf_34, s_X3_chargesOf_35, s_X3_chargesOf_39, s_X3_chargesOf_41, s_X3_chargesOf_44, s_X3_chargesOf_45, s_X3_chargesOf_49, s_X3_chargesOf_51, s_X3_chargesOf_52, s_X3_chargesOf_54, s_X3_chargesOf_57, s_X3_chargesOf_58, s_X3_chargesOf_61, s_X3_chargesOf_62, s_X3_chargesOf_65, s_X3_chargesOf_66, s_X3_chargesOf_68, s_X3_chargesOf_70, s_X3_chargesOf_72, s_X3_chargesOf_73, s_X3_chargesOf_76, s_X3_chargesOf_77, s_X3_chargesOf_78, s_X3_chargesOf_81, s_X3_chargesOf_83, s_X3_chargesOf_84, s_X3_chargesOf_85, s_X3_chargesOf_88, s_X3_chargesOf_91, s_X3_chargesOf_92, s_X3_chargesOf_94, s_X3_chargesOf_96, s_X3_chargesOf_98, s_X3_chargesOf_99, s_X3_chargesOf_101, s_X3_chargesOf_104, s_X3_chargesOf_107, s_X3_chargesOf_110, s_X3_chargesOf_113, s_X3_chargesOf_114, s_X3_chargesOf_117, s_X3_chargesOf_119, s_X3_chargesOf_122, ↓reduceIte, Option.toList_some, Option.toList_none, List.cons_append, List.nil_append, List.singleton_append, List.append_nil, true_and, and_true, true_or, or_true, andT, iteT, iteF, itT, itF, zS_r0 hr, zP_r0_0 hr, zP_r0_1 hr, zP_r0_2 hr, zP_r0_3 hr, zP_r0_4 hr, zP_r0_5 hr, zP_r0_6 hr, zP_r0_7 hr, zP_r0_8 hr, zP_r0_9 hr, zP_r0_10 hr, zP_r0_11 hr, zP_r0_12 hr, zP_r0_13 hr, zP_r0_14 hr, zP_r0_15 hr, zS_r14 hr, zP_r14_1 hr, zP_r14_2 hr, zP_r14_3 hr, zP_r14_4 hr, zP_r14_6 hr, zP_r14_7 hr, zP_r14_8 hr, zP_r14_9 hr, zP_r14_10 hr, zP_r14_11 hr, zP_r14_12 hr, zP_r14_13 hr, zP_r14_14 hr, zP_r14_15 hr, zS_r15 hr, zS_r16 hr, zS_r17 hr, zS_r18 hr, zS_r19 hr, zS_r20 hr, zS_r21 hr, zS_r22 hr, zS_r23 hr, zS_r24 hr, zS_r25 hr, zS_r26 hr, zS_r27 hr, zS_r28 hr, zS_r29 hr, zS_r54 hr, zS_r55 hr, zS_r61 hr, zS_r67 hr, zS_r68 hr, zS_r69 hr, zS_r70 hr, zS_r71 hr, zS_r72 hr, zS_r73 hr, zS_r79 hr, zS_r85 hr, zS_r86 hr, zP_g_losses hr, zS_g_losses hr, zP_g_rows hr, zS_g_rows hr, zP_g_deltaBy hr, zS_g_deltaBy hr, zP_g_prices hr, zS_g_prices hr, zP_g_unrests hr, zS_g_unrests hr, zS_b0 hq, zP_b0_0 hq, zP_b0_1 hq, zP_b0_2 hq, zP_b0_3 hq, zP_b0_4 hq, zP_b0_5 hq, zS_b1 hq, zS_b3 hq, zS_b5 hq, zS_b7 hq, zS_b9 hq, zS_b11 hq, at_0 hq hb1]
  generalize hD : m (r + 62 + g) = D at *
  generalize hS : (b 0).2 g 4 = sp at *
  have hL : ∀ i, 0 ≤ i → i < 6 → gCp m (r + 62 + g) 0 (r + 85) 0 6 (r + 85) i = D i := by
    intro i i0 i1
    rw [gCp_rw]
    show (if _ then _ else _) = _
    rw [if_pos (by omega), hD]
    congr 1
    omega
  have hLf : B6 (gCp m (r + 62 + g) 0 (r + 85) 0 6 (r + 85)) := fun i i0 i1 => by rw [hL i i0 i1]; exact hB i i0 i1
  refine R_for0 5 (fun k ls m' => (∃ u u8 s, ls = [(2, r), (0, g), (1, sp), (3, 0), (1, s), (3, 0), (0, (k : Int) + 1), u, u8, (3, 0)] ∧ J m' r F (Q ∧ s = (chO sp D k).2 ∧ ∀ k' e' : Nat, k' < k → e' < 5 - k' → chC sp D k' e')) ∧ Fr (r + 85) (r + 86) m m' ∧ Ag (m' (r + 85)) (chO sp D k).1) ⟨⟨_, _, 0, rfl, J_fr (J_mono hJ (fun hQ => ⟨hQ, rfl, fun k' e' h _ => absurd h (by omega)⟩)) (gCp_row (by omega))⟩, fun a ha => gCp_row (by omega), hL⟩ ?_ ?_
  · rintro k ls m1 hk5 ⟨⟨u, u8, s, rfl, j1⟩, f1, a1⟩ hn
    rw [s_X3_chargesOf_37]
    simp (disch := first | assumption | omega | (simp (disch := omega) only [gU_row, gU_same, gU_i, gCp_row] <;> omega)) only [e_X3_chargesOf, s_X3_chargesOf_0, s_X3_chargesOf_1, s_X3_chargesOf_4, s_X3_chargesOf_5, s_X3_chargesOf_6, s_X3_chargesOf_7, s_X3_chargesOf_8, s_X3_chargesOf_11, s_X3_chargesOf_12, s_X3_chargesOf_14, s_X3_chargesOf_17, s_X3_chargesOf_18, s_X3_chargesOf_21, s_X3_chargesOf_24, s_X3_chargesOf_25, s_X3_chargesOf_26, s_X3_chargesOf_29, s_X3_chargesOf_30, s_X3_chargesOf_31, s_X3_chargesOf_32, s_X3_chargesOf_34, s_X3_chargesOf_35, s_X3_chargesOf_39, s_X3_chargesOf_41, s_X3_chargesOf_44, s_X3_chargesOf_45, s_X3_chargesOf_49, s_X3_chargesOf_51, s_X3_chargesOf_52, s_X3_chargesOf_54, s_X3_chargesOf_57, s_X3_chargesOf_58, s_X3_chargesOf_61, s_X3_chargesOf_62, s_X3_chargesOf_65, s_X3_chargesOf_66, s_X3_chargesOf_68, s_X3_chargesOf_70, s_X3_chargesOf_72, s_X3_chargesOf_73, s_X3_chargesOf_76, s_X3_chargesOf_77, s_X3_chargesOf_78, s_X3_chargesOf_81, s_X3_chargesOf_83, s_X3_chargesOf_84, s_X3_chargesOf_85, s_X3_chargesOf_88, s_X3_chargesOf_91, s_X3_chargesOf_92, s_X3_chargesOf_94, s_X3_chargesOf_96, s_X3_chargesOf_98, s_X3_chargesOf_99, s_X3_chargesOf_101, s_X3_chargesOf_104, s_X3_chargesOf_107, s_X3_chargesOf_110, s_X3_chargesOf_113, s_X3_chargesOf_114, s_X3_chargesOf_117, s_X3_chargesOf_119, s_X3_chargesOf_122, ↓reduceIte, Option.toList_some, Option.toList_none, List.cons_append, List.nil_append, List.singleton_append, List.append_nil, true_and, and_true, true_or, or_true, andT, iteT, iteF, itT, itF]
    refine R_for0 (5 - k) (fun e ls m' => (∃ u8 s, ls = [(2, r), (0, g), (1, sp), (3, 0), (1, s), (3, 0), (0, (k : Int) + 1), (0, (e : Int)), u8, (3, 0)] ∧ J m' r F (Q ∧ s = (chA sp D k e).2 ∧ ∀ k' e' : Nat, (k' < k ∨ (k' = k ∧ e' < e)) → e' < 5 - k' → chC sp D k' e')) ∧ Fr (r + 85) (r + 86) m m' ∧ Ag (m' (r + 85)) (chA sp D k e).1) ⟨⟨_, s, rfl, J_mono j1 (fun ⟨hQ, hs, h⟩ => ⟨hQ, hs, fun k' e' h1 h2 => h k' e' (by omega) h2⟩)⟩, f1, a1⟩ ?_ ?_
    · rintro e ls m2 he5 ⟨⟨u8, s2, rfl, j2⟩, f2, a2⟩ hn2
      have bA := chA_B6 (sp := sp) hB (k := k) (e := e) (by omega) (by omega)
      have bm := Ag_B6 a2 bA
      rw [s_X3_chargesOf_47]
      simp (disch := first | assumption | omega | (simp (disch := omega) only [gU_row, gU_same, gU_i, gCp_row] <;> omega)) only [e_X3_chargesOf, s_X3_chargesOf_0, s_X3_chargesOf_1, s_X3_chargesOf_4, s_X3_chargesOf_5, s_X3_chargesOf_6, s_X3_chargesOf_7, s_X3_chargesOf_8, s_X3_chargesOf_11, s_X3_chargesOf_12, s_X3_chargesOf_14, s_X3_chargesOf_17, s_X3_chargesOf_18, s_X3_chargesOf_21, s_X3_chargesOf_24, s_X3_chargesOf_25, s_X3_chargesOf_26, s_X3_chargesOf_29, s_X3_chargesOf_30, s_X3_chargesOf_31, s_X3_chargesOf_32, s_X3_chargesOf_34, s_X3_chargesOf_35, s_X3_chargesOf_39, s_X3_chargesOf_41, s_X3_chargesOf_44, s_X3_chargesOf_45, s_X3_chargesOf_49, s_X3_chargesOf_51, s_X3_chargesOf_52, s_X3_chargesOf_54, s_X3_chargesOf_57, s_X3_chargesOf_58, s_X3_chargesOf_61, s_X3_chargesOf_62, s_X3_chargesOf_65, s_X3_chargesOf_66, s_X3_chargesOf_68, s_X3_chargesOf_70, s_X3_chargesOf_72, s_X3_chargesOf_73, s_X3_chargesOf_76, s_X3_chargesOf_77, s_X3_chargesOf_78, s_X3_chargesOf_81, s_X3_chargesOf_83, s_X3_chargesOf_84, s_X3_chargesOf_85, s_X3_chargesOf_88, s_X3_chargesOf_91, s_X3_chargesOf_92, s_X3_chargesOf_94, s_X3_chargesOf_96, s_X3_chargesOf_98, s_X3_chargesOf_99, s_X3_chargesOf_101, s_X3_chargesOf_104, s_X3_chargesOf_107, s_X3_chargesOf_110, s_X3_chargesOf_113, s_X3_chargesOf_114, s_X3_chargesOf_117, s_X3_chargesOf_119, s_X3_chargesOf_122, ↓reduceIte, Option.toList_some, Option.toList_none, List.cons_append, List.nil_append, List.singleton_append, List.append_nil, true_and, and_true, true_or, or_true, andT, iteT, iteF, itT, itF, zS_r0 hr, zP_r0_0 hr, zP_r0_1 hr, zP_r0_2 hr, zP_r0_3 hr, zP_r0_4 hr, zP_r0_5 hr, zP_r0_6 hr, zP_r0_7 hr, zP_r0_8 hr, zP_r0_9 hr, zP_r0_10 hr, zP_r0_11 hr, zP_r0_12 hr, zP_r0_13 hr, zP_r0_14 hr, zP_r0_15 hr, zS_r14 hr, zP_r14_1 hr, zP_r14_2 hr, zP_r14_3 hr, zP_r14_4 hr, zP_r14_6 hr, zP_r14_7 hr, zP_r14_8 hr, zP_r14_9 hr, zP_r14_10 hr, zP_r14_11 hr, zP_r14_12 hr, zP_r14_13 hr, zP_r14_14 hr, zP_r14_15 hr, zS_r15 hr, zS_r16 hr, zS_r17 hr, zS_r18 hr, zS_r19 hr, zS_r20 hr, zS_r21 hr, zS_r22 hr, zS_r23 hr, zS_r24 hr, zS_r25 hr, zS_r26 hr, zS_r27 hr, zS_r28 hr, zS_r29 hr, zS_r54 hr, zS_r55 hr, zS_r61 hr, zS_r67 hr, zS_r68 hr, zS_r69 hr, zS_r70 hr, zS_r71 hr, zS_r72 hr, zS_r73 hr, zS_r79 hr, zS_r85 hr, zS_r86 hr, iadd_ok]
      refine c_paired hr (by omega) (by omega) (by omega) (by omega) (by omega) bm (fun m3 f3 e3 => ?_)
      rw [Ag_pm a2 (by omega) (by omega) (by omega) (by omega)]
      have j3 := J_fr j2 (f3 (r + 86) (by omega))
      have pb := pm_bd (x := (chA sp D k e).1) (e := e) (f := (e : Int) + ((k : Int) + 1)) (bA e (by omega) (by omega))
      have b1 := mul_bd (a := pm (chA sp D k e).1 e ((e : Int) + ((k : Int) + 1))) (b := sp) 2147483648 99 (by omega) (by omega) (by omega) (by omega)
      simp (disch := first | assumption | omega | (simp (disch := omega) only [gU_row, gU_same, gU_i, gCp_row] <;> omega)) only [e_X3_chargesOf, s_X3_chargesOf_0, s_X3_chargesOf_1, s_X3_chargesOf_4, s_X3_chargesOf_5, s_X3_chargesOf_6, s_X3_chargesOf_7, s_X3_chargesOf_8, s_X3_chargesOf_11, s_X3_chargesOf_12, s_X3_chargesOf_14, s_X3_chargesOf_17, s_X3_chargesOf_18, s_X3_chargesOf_21, s_X3_chargesOf_24, s_X3_chargesOf_25, s_X3_chargesOf_26, s_X3_chargesOf_29, s_X3_chargesOf_30, s_X3_chargesOf_31, s_X3_chargesOf_32, s_X3_chargesOf_34, s_X3_chargesOf_35, s_X3_chargesOf_39, s_X3_chargesOf_41, s_X3_chargesOf_44, s_X3_chargesOf_45, s_X3_chargesOf_49, s_X3_chargesOf_51, s_X3_chargesOf_52, s_X3_chargesOf_54, s_X3_chargesOf_57, s_X3_chargesOf_58, s_X3_chargesOf_61, s_X3_chargesOf_62, s_X3_chargesOf_65, s_X3_chargesOf_66, s_X3_chargesOf_68, s_X3_chargesOf_70, s_X3_chargesOf_72, s_X3_chargesOf_73, s_X3_chargesOf_76, s_X3_chargesOf_77, s_X3_chargesOf_78, s_X3_chargesOf_81, s_X3_chargesOf_83, s_X3_chargesOf_84, s_X3_chargesOf_85, s_X3_chargesOf_88, s_X3_chargesOf_91, s_X3_chargesOf_92, s_X3_chargesOf_94, s_X3_chargesOf_96, s_X3_chargesOf_98, s_X3_chargesOf_99, s_X3_chargesOf_101, s_X3_chargesOf_104, s_X3_chargesOf_107, s_X3_chargesOf_110, s_X3_chargesOf_113, s_X3_chargesOf_114, s_X3_chargesOf_117, s_X3_chargesOf_119, s_X3_chargesOf_122, ↓reduceIte, Option.toList_some, Option.toList_none, List.cons_append, List.nil_append, List.singleton_append, List.append_nil, true_and, and_true, true_or, or_true, andT, iteT, iteF, itT, itF, zS_r0 hr, zP_r0_0 hr, zP_r0_1 hr, zP_r0_2 hr, zP_r0_3 hr, zP_r0_4 hr, zP_r0_5 hr, zP_r0_6 hr, zP_r0_7 hr, zP_r0_8 hr, zP_r0_9 hr, zP_r0_10 hr, zP_r0_11 hr, zP_r0_12 hr, zP_r0_13 hr, zP_r0_14 hr, zP_r0_15 hr, zS_r14 hr, zP_r14_1 hr, zP_r14_2 hr, zP_r14_3 hr, zP_r14_4 hr, zP_r14_6 hr, zP_r14_7 hr, zP_r14_8 hr, zP_r14_9 hr, zP_r14_10 hr, zP_r14_11 hr, zP_r14_12 hr, zP_r14_13 hr, zP_r14_14 hr, zP_r14_15 hr, zS_r15 hr, zS_r16 hr, zS_r17 hr, zS_r18 hr, zS_r19 hr, zS_r20 hr, zS_r21 hr, zS_r22 hr, zS_r23 hr, zS_r24 hr, zS_r25 hr, zS_r26 hr, zS_r27 hr, zS_r28 hr, zS_r29 hr, zS_r54 hr, zS_r55 hr, zS_r61 hr, zS_r67 hr, zS_r68 hr, zS_r69 hr, zS_r70 hr, zS_r71 hr, zS_r72 hr, zS_r73 hr, zS_r79 hr, zS_r85 hr, zS_r86 hr, lmul_ok, c_fit hr]
      generalize hp : pm (chA sp D k e).1 e ((e : Int) + ((k : Int) + 1)) = p at *
      have fb := fitv_bd (p * sp)
      have b2 := mul_bd (a := fitv (p * sp)) (b := (k : Int) + 1) 2147483648 5 (by omega) (by omega) (by omega) (by omega)
      have j4 := J_fit (x := p * sp) j3 (fun ⟨hQ, hs, h⟩ hf => by
        have := ((hF hQ hf).1 k e (by omega) (by omega)).1
        rw [hp] at this
        exact this)
      simp (disch := first | assumption | omega | (simp (disch := omega) only [gU_row, gU_same, gU_i, gCp_row] <;> omega)) only [e_X3_chargesOf, s_X3_chargesOf_0, s_X3_chargesOf_1, s_X3_chargesOf_4, s_X3_chargesOf_5, s_X3_chargesOf_6, s_X3_chargesOf_7, s_X3_chargesOf_8, s_X3_chargesOf_11, s_X3_chargesOf_12, s_X3_chargesOf_14, s_X3_chargesOf_17, s_X3_chargesOf_18, s_X3_chargesOf_21, s_X3_chargesOf_24, s_X3_chargesOf_25, s_X3_chargesOf_26, s_X3_chargesOf_29, s_X3_chargesOf_30, s_X3_chargesOf_31, s_X3_chargesOf_32, s_X3_chargesOf_34, s_X3_chargesOf_35, s_X3_chargesOf_39, s_X3_chargesOf_41, s_X3_chargesOf_44, s_X3_chargesOf_45, s_X3_chargesOf_49, s_X3_chargesOf_51, s_X3_chargesOf_52, s_X3_chargesOf_54, s_X3_chargesOf_57, s_X3_chargesOf_58, s_X3_chargesOf_61, s_X3_chargesOf_62, s_X3_chargesOf_65, s_X3_chargesOf_66, s_X3_chargesOf_68, s_X3_chargesOf_70, s_X3_chargesOf_72, s_X3_chargesOf_73, s_X3_chargesOf_76, s_X3_chargesOf_77, s_X3_chargesOf_78, s_X3_chargesOf_81, s_X3_chargesOf_83, s_X3_chargesOf_84, s_X3_chargesOf_85, s_X3_chargesOf_88, s_X3_chargesOf_91, s_X3_chargesOf_92, s_X3_chargesOf_94, s_X3_chargesOf_96, s_X3_chargesOf_98, s_X3_chargesOf_99, s_X3_chargesOf_101, s_X3_chargesOf_104, s_X3_chargesOf_107, s_X3_chargesOf_110, s_X3_chargesOf_113, s_X3_chargesOf_114, s_X3_chargesOf_117, s_X3_chargesOf_119, s_X3_chargesOf_122, ↓reduceIte, Option.toList_some, Option.toList_none, List.cons_append, List.nil_append, List.singleton_append, List.append_nil, true_and, and_true, true_or, or_true, andT, iteT, iteF, itT, itF, zS_r0 hr, zP_r0_0 hr, zP_r0_1 hr, zP_r0_2 hr, zP_r0_3 hr, zP_r0_4 hr, zP_r0_5 hr, zP_r0_6 hr, zP_r0_7 hr, zP_r0_8 hr, zP_r0_9 hr, zP_r0_10 hr, zP_r0_11 hr, zP_r0_12 hr, zP_r0_13 hr, zP_r0_14 hr, zP_r0_15 hr, zS_r14 hr, zP_r14_1 hr, zP_r14_2 hr, zP_r14_3 hr, zP_r14_4 hr, zP_r14_6 hr, zP_r14_7 hr, zP_r14_8 hr, zP_r14_9 hr, zP_r14_10 hr, zP_r14_11 hr, zP_r14_12 hr, zP_r14_13 hr, zP_r14_14 hr, zP_r14_15 hr, zS_r15 hr, zS_r16 hr, zS_r17 hr, zS_r18 hr, zS_r19 hr, zS_r20 hr, zS_r21 hr, zS_r22 hr, zS_r23 hr, zS_r24 hr, zS_r25 hr, zS_r26 hr, zS_r27 hr, zS_r28 hr, zS_r29 hr, zS_r54 hr, zS_r55 hr, zS_r61 hr, zS_r67 hr, zS_r68 hr, zS_r69 hr, zS_r70 hr, zS_r71 hr, zS_r72 hr, zS_r73 hr, zS_r79 hr, zS_r85 hr, zS_r86 hr, lmul_ok, c_fit hr]
      have j5 := J_fit (x := fitv (p * sp) * ((k : Int) + 1)) j4 (fun ⟨⟨hQ, hs, h⟩, ho, he⟩ hf => by
        have := ((hF hQ hf).1 k e (by omega) (by omega)).2
        rw [hp] at this
        rw [fitv_ok ho]
        exact this)
      have fb2 := fitv_bd (fitv (p * sp) * ((k : Int) + 1))
      simp (disch := first | assumption | omega | (simp (disch := omega) only [gU_row, gU_same, gU_i, gCp_row] <;> omega)) only [e_X3_chargesOf, s_X3_chargesOf_0, s_X3_chargesOf_1, s_X3_chargesOf_4, s_X3_chargesOf_5, s_X3_chargesOf_6, s_X3_chargesOf_7, s_X3_chargesOf_8, s_X3_chargesOf_11, s_X3_chargesOf_12, s_X3_chargesOf_14, s_X3_chargesOf_17, s_X3_chargesOf_18, s_X3_chargesOf_21, s_X3_chargesOf_24, s_X3_chargesOf_25, s_X3_chargesOf_26, s_X3_chargesOf_29, s_X3_chargesOf_30, s_X3_chargesOf_31, s_X3_chargesOf_32, s_X3_chargesOf_34, s_X3_chargesOf_35, s_X3_chargesOf_39, s_X3_chargesOf_41, s_X3_chargesOf_44, s_X3_chargesOf_45, s_X3_chargesOf_49, s_X3_chargesOf_51, s_X3_chargesOf_52, s_X3_chargesOf_54, s_X3_chargesOf_57, s_X3_chargesOf_58, s_X3_chargesOf_61, s_X3_chargesOf_62, s_X3_chargesOf_65, s_X3_chargesOf_66, s_X3_chargesOf_68, s_X3_chargesOf_70, s_X3_chargesOf_72, s_X3_chargesOf_73, s_X3_chargesOf_76, s_X3_chargesOf_77, s_X3_chargesOf_78, s_X3_chargesOf_81, s_X3_chargesOf_83, s_X3_chargesOf_84, s_X3_chargesOf_85, s_X3_chargesOf_88, s_X3_chargesOf_91, s_X3_chargesOf_92, s_X3_chargesOf_94, s_X3_chargesOf_96, s_X3_chargesOf_98, s_X3_chargesOf_99, s_X3_chargesOf_101, s_X3_chargesOf_104, s_X3_chargesOf_107, s_X3_chargesOf_110, s_X3_chargesOf_113, s_X3_chargesOf_114, s_X3_chargesOf_117, s_X3_chargesOf_119, s_X3_chargesOf_122, ↓reduceIte, Option.toList_some, Option.toList_none, List.cons_append, List.nil_append, List.singleton_append, List.append_nil, true_and, and_true, true_or, or_true, andT, iteT, iteF, itT, itF, zS_r0 hr, zP_r0_0 hr, zP_r0_1 hr, zP_r0_2 hr, zP_r0_3 hr, zP_r0_4 hr, zP_r0_5 hr, zP_r0_6 hr, zP_r0_7 hr, zP_r0_8 hr, zP_r0_9 hr, zP_r0_10 hr, zP_r0_11 hr, zP_r0_12 hr, zP_r0_13 hr, zP_r0_14 hr, zP_r0_15 hr, zS_r14 hr, zP_r14_1 hr, zP_r14_2 hr, zP_r14_3 hr, zP_r14_4 hr, zP_r14_6 hr, zP_r14_7 hr, zP_r14_8 hr, zP_r14_9 hr, zP_r14_10 hr, zP_r14_11 hr, zP_r14_12 hr, zP_r14_13 hr, zP_r14_14 hr, zP_r14_15 hr, zS_r15 hr, zS_r16 hr, zS_r17 hr, zS_r18 hr, zS_r19 hr, zS_r20 hr, zS_r21 hr, zS_r22 hr, zS_r23 hr, zS_r24 hr, zS_r25 hr, zS_r26 hr, zS_r27 hr, zS_r28 hr, zS_r29 hr, zS_r54 hr, zS_r55 hr, zS_r61 hr, zS_r67 hr, zS_r68 hr, zS_r69 hr, zS_r70 hr, zS_r71 hr, zS_r72 hr, zS_r73 hr, zS_r79 hr, zS_r85 hr, zS_r86 hr, ldiv_lit, iadd_ok]
      refine hn2 _ _ ⟨⟨_, _, rfl, J_mono j5 (fun ⟨⟨⟨hQ, hs, h⟩, ho1, he1⟩, ho2, he2⟩ => ⟨hQ, ?_, ?_⟩)⟩, ?_, ?_⟩
      · have cb := chA_bd (sp := sp) (x := D) (k := k) (n := e) (by omega) (by omega) h
        rw [fitv_ok ho1] at ho2 ⊢
        have ho2' := ho2
        unfold okI at ho2'
        have tb : -2147483648 ≤ td (p * sp * ((k : Int) + 1)) 10 ∧ td (p * sp * ((k : Int) + 1)) 10 ≤ 2147483648 := by
          unfold td
          split <;> omega
        rw [fitv_ok ho2, hs, ladd_ok (by omega) (by omega), ← hp]
        rfl
      · intro k' e' h1 h2
        by_cases hh : k' < k ∨ (k' = k ∧ e' < e)
        · exact h k' e' hh h2
        · have : k' = k ∧ e' = e := by omega
          obtain ⟨rfl, rfl⟩ := this
          rw [fitv_ok ho1] at ho2
          rw [← hp] at ho1 ho2
          exact ⟨ho1, ho2⟩
      · intro a ha
        rw [fitm_row (by omega), fitm_row (by omega), f3 a (by omega), f2 a ha]
      · rw [fitm_row (by omega), fitm_row (by omega), e3]
        exact Ag_px a2 (by omega) (by omega) (by omega) (by omega)
    · rintro ls m2 ⟨⟨u8, s2, rfl, j2⟩, f2, a2⟩
      rw [s_X3_chargesOf_47]
      simp (disch := first | assumption | omega | (simp (disch := omega) only [gU_row, gU_same, gU_i, gCp_row] <;> omega)) only [e_X3_chargesOf, s_X3_chargesOf_0, s_X3_chargesOf_1, s_X3_chargesOf_4, s_X3_chargesOf_5, s_X3_chargesOf_6, s_X3_chargesOf_7, s_X3_chargesOf_8, s_X3_chargesOf_11, s_X3_chargesOf_12, s_X3_chargesOf_14, s_X3_chargesOf_17, s_X3_chargesOf_18, s_X3_chargesOf_21, s_X3_chargesOf_24, s_X3_chargesOf_25, s_X3_chargesOf_26, s_X3_chargesOf_29, s_X3_chargesOf_30, s_X3_chargesOf_31, s_X3_chargesOf_32, s_X3_chargesOf_34, s_X3_chargesOf_35, s_X3_chargesOf_39, s_X3_chargesOf_41, s_X3_chargesOf_44, s_X3_chargesOf_45, s_X3_chargesOf_49, s_X3_chargesOf_51, s_X3_chargesOf_52, s_X3_chargesOf_54, s_X3_chargesOf_57, s_X3_chargesOf_58, s_X3_chargesOf_61, s_X3_chargesOf_62, s_X3_chargesOf_65, s_X3_chargesOf_66, s_X3_chargesOf_68, s_X3_chargesOf_70, s_X3_chargesOf_72, s_X3_chargesOf_73, s_X3_chargesOf_76, s_X3_chargesOf_77, s_X3_chargesOf_78, s_X3_chargesOf_81, s_X3_chargesOf_83, s_X3_chargesOf_84, s_X3_chargesOf_85, s_X3_chargesOf_88, s_X3_chargesOf_91, s_X3_chargesOf_92, s_X3_chargesOf_94, s_X3_chargesOf_96, s_X3_chargesOf_98, s_X3_chargesOf_99, s_X3_chargesOf_101, s_X3_chargesOf_104, s_X3_chargesOf_107, s_X3_chargesOf_110, s_X3_chargesOf_113, s_X3_chargesOf_114, s_X3_chargesOf_117, s_X3_chargesOf_119, s_X3_chargesOf_122, ↓reduceIte, Option.toList_some, Option.toList_none, List.cons_append, List.nil_append, List.singleton_append, List.append_nil, true_and, and_true, true_or, or_true, andT, iteT, iteF, itT, itF, iadd_ok]
      refine hn _ _ ⟨⟨(0, ((5 - k : Nat) : Int)), u8, s2, by simp, J_mono j2 (fun ⟨hQ, hs, h⟩ => ⟨hQ, hs, fun k' e' h1 h2 => h k' e' (by omega) h2⟩)⟩, f2, a2⟩
  · rintro ls m1 ⟨⟨u, u8, s, rfl, j1⟩, f1, a1⟩
    rw [s_X3_chargesOf_37]
    simp (disch := first | assumption | omega | (simp (disch := omega) only [gU_row, gU_same, gU_i, gCp_row] <;> omega)) only [e_X3_chargesOf, s_X3_chargesOf_0, s_X3_chargesOf_1, s_X3_chargesOf_4, s_X3_chargesOf_5, s_X3_chargesOf_6, s_X3_chargesOf_7, s_X3_chargesOf_8, s_X3_chargesOf_11, s_X3_chargesOf_12, s_X3_chargesOf_14, s_X3_chargesOf_17, s_X3_chargesOf_18, s_X3_chargesOf_21, s_X3_chargesOf_24, s_X3_chargesOf_25, s_X3_chargesOf_26, s_X3_chargesOf_29, s_X3_chargesOf_30, s_X3_chargesOf_31, s_X3_chargesOf_32, s_X3_chargesOf_34, s_X3_chargesOf_35, s_X3_chargesOf_39, s_X3_chargesOf_41, s_X3_chargesOf_44, s_X3_chargesOf_45, s_X3_chargesOf_49, s_X3_chargesOf_51, s_X3_chargesOf_52, s_X3_chargesOf_54, s_X3_chargesOf_57, s_X3_chargesOf_58, s_X3_chargesOf_61, s_X3_chargesOf_62, s_X3_chargesOf_65, s_X3_chargesOf_66, s_X3_chargesOf_68, s_X3_chargesOf_70, s_X3_chargesOf_72, s_X3_chargesOf_73, s_X3_chargesOf_76, s_X3_chargesOf_77, s_X3_chargesOf_78, s_X3_chargesOf_81, s_X3_chargesOf_83, s_X3_chargesOf_84, s_X3_chargesOf_85, s_X3_chargesOf_88, s_X3_chargesOf_91, s_X3_chargesOf_92, s_X3_chargesOf_94, s_X3_chargesOf_96, s_X3_chargesOf_98, s_X3_chargesOf_99, s_X3_chargesOf_101, s_X3_chargesOf_104, s_X3_chargesOf_107, s_X3_chargesOf_110, s_X3_chargesOf_113, s_X3_chargesOf_114, s_X3_chargesOf_117, s_X3_chargesOf_119, s_X3_chargesOf_122, ↓reduceIte, Option.toList_some, Option.toList_none, List.cons_append, List.nil_append, List.singleton_append, List.append_nil, true_and, and_true, true_or, or_true, andT, iteT, iteF, itT, itF, zS_r0 hr, zP_r0_0 hr, zP_r0_1 hr, zP_r0_2 hr, zP_r0_3 hr, zP_r0_4 hr, zP_r0_5 hr, zP_r0_6 hr, zP_r0_7 hr, zP_r0_8 hr, zP_r0_9 hr, zP_r0_10 hr, zP_r0_11 hr, zP_r0_12 hr, zP_r0_13 hr, zP_r0_14 hr, zP_r0_15 hr, zS_r14 hr, zP_r14_1 hr, zP_r14_2 hr, zP_r14_3 hr, zP_r14_4 hr, zP_r14_6 hr, zP_r14_7 hr, zP_r14_8 hr, zP_r14_9 hr, zP_r14_10 hr, zP_r14_11 hr, zP_r14_12 hr, zP_r14_13 hr, zP_r14_14 hr, zP_r14_15 hr, zS_r15 hr, zS_r16 hr, zS_r17 hr, zS_r18 hr, zS_r19 hr, zS_r20 hr, zS_r21 hr, zS_r22 hr, zS_r23 hr, zS_r24 hr, zS_r25 hr, zS_r26 hr, zS_r27 hr, zS_r28 hr, zS_r29 hr, zS_r54 hr, zS_r55 hr, zS_r61 hr, zS_r67 hr, zS_r68 hr, zS_r69 hr, zS_r70 hr, zS_r71 hr, zS_r72 hr, zS_r73 hr, zS_r79 hr, zS_r85 hr, zS_r86 hr, c_fit hr]
    have fb := fitv_bd s
    have j2 := J_fit (x := s) j1 (fun ⟨hQ, hs, h⟩ hf => by
      rw [hs]
      exact (hF hQ hf).2)
    refine hk _ _ (fun a ha => by rw [fitm_row (by omega), f1 a ha]) fb.1 fb.2 (J_mono j2 (fun ⟨⟨hQ, hs, h⟩, ho, he⟩ => ⟨hQ, ⟨fun k e h1 h2 => h k e h1 h2, by rw [← hs]; exact ho⟩, by rw [fitv_ok ho, hs]⟩))
end RECK3
