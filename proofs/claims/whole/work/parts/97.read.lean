/-! a text read: both sides. -/
noncomputable def s_rd (S : TX) (b : Bk) : Bk := if (prs S 10 0).1 < 0 then rdB (prs S 10 0).2 b else b
noncomputable def a_read (S : TX) (b : Bk) : Int := if (prs S 10 0).1 < 0 then rdC (prs S 10 0).2 b else -10 - (prs S 10 0).1
def FrKX (m m' : gM) : Prop := ∀ a, (a < 1 ∨ (174 < a ∧ a < 188) ∨ (200 < a ∧ a ≠ 212)) → m' a = m a
def FrMY (m m' : gM) : Prop := (∀ a, (a < 213 ∨ a = 215 ∨ 239 < a) → m' a = m a) ∧ ∀ i, i ≠ 5 → (i < 25 ∨ (31 < i ∧ i < 35)) → m' 213 i = m 213 i
theorem prs_bd {S : TX} : ∀ (k : Nat) (p : Int), 0 ≤ p → p ≤ S.1 → -1 ≤ (prs S k p).1 ∧ (prs S k p).1 ≤ S.1
  | 0, p, p0, p1 => by show -1 ≤ p ∧ p ≤ S.1; omega
  | k + 1, p, p0, p1 => by
    have hb := pcl_bd (S := S) p0 p1
    rw [prs]
    by_cases h0 : (pcl S p).1 = 0
    · rw [if_pos h0]; show -1 ≤ (pcl S p).2.1 ∧ (pcl S p).2.1 ≤ S.1; omega
    · rw [if_neg h0]
      by_cases h2 : (pcl S p).2.1 < S.1
      · rw [if_pos h2]
        by_cases h3 : k = 0 ∨ S.2 (pcl S p).2.1 ≠ 59
        · rw [if_pos h3]; show -1 ≤ (pcl S p).2.1 ∧ (pcl S p).2.1 ≤ S.1; omega
        · rw [if_neg h3]; exact prs_bd (S := S) k ((pcl S p).2.1 + 1) (by omega) (by omega)
      · rw [if_neg h2]; show (-1 : Int) ≤ -1 ∧ (-1 : Int) ≤ S.1; omega
section READ
variable {L d N : Nat} {z X Y q r v t c n g j k e s o u x y i : Int} {w : gW} {m m' : gM} {K : Option gV → gW → gM → Prop} {b b' b1 b2 kb : Bk} {a : Int × (Int → Int)} {S : TX} {xs : Int → Int}
set_option maxHeartbeats 1000000 in
theorem m_rd_lp [NeZero (z % 2)] : ∀ (l : List (Int × (Int → Int))) (j n acc : Int) (b : Bk) (m : gM) (K : Option gV → gW → gM → Prop), MI m b → GB b → 0 ≤ j → j + (l.length : Int) = n → n ≤ 10 → ClR (m 238) (m 239) j l → (∀ a ∈ l, fm a.1 ≠ []) → 0 ≤ acc → acc ≤ j → (∀ m', MI m' (rdB l b) → GB (rdB l b) → FrM m m' → K (some (0, acc + rdC l b)) (w0 L z X Y) m') → R (d + 16) M_X8_read 81 [(2, 213), (0, n), (0, acc), (0, j)] [] (w0 L z X Y) m K := by
  intro l
  induction l with
  | nil =>
    intro j n acc b m K hI hG j0 hn n10 hC hf a0 a1 hk
    have hn' : j = n := by simpa using hn
    rw [s_X8_read_81]
    simp (disch := first | assumption | omega | ((simp (disch := omega) only [gU_row, mis_row, gU_same, gU_i, mis_i, gCp_row]); first | assumption | omega)) only [e_X8_read, s_X8_read_0, s_X8_read_1, s_X8_read_2, s_X8_read_5, s_X8_read_6, s_X8_read_7, s_X8_read_10, s_X8_read_11, s_X8_read_12, s_X8_read_13, s_X8_read_15, s_X8_read_16, s_X8_read_17, s_X8_read_20, s_X8_read_23, s_X8_read_24, s_X8_read_26, s_X8_read_29, s_X8_read_30, s_X8_read_32, s_X8_read_35, s_X8_read_38, s_X8_read_39, s_X8_read_42, s_X8_read_43, s_X8_read_46, s_X8_read_49, s_X8_read_50, s_X8_read_51, s_X8_read_54, s_X8_read_57, s_X8_read_58, s_X8_read_59, s_X8_read_62, s_X8_read_63, s_X8_read_66, s_X8_read_69, s_X8_read_71, s_X8_read_72, s_X8_read_75, s_X8_read_76, s_X8_read_77, s_X8_read_78, s_X8_read_79, s_X8_read_80, s_X8_read_82, s_X8_read_83, s_X8_read_86, s_X8_read_87, s_X8_read_88, s_X8_read_90, s_X8_read_91, s_X8_read_92, s_X8_read_95, s_X8_read_98, s_X8_read_99, s_X8_read_102, s_X8_read_103, s_X8_read_104, s_X8_read_105, s_X8_read_108, s_X8_read_111, s_X8_read_112, ↓reduceIte, Option.toList_some, Option.toList_none, List.cons_append, List.nil_append, List.singleton_append, List.append_nil, true_and, and_true, true_or, or_true, andT, iteT, iteF, itT, itF, zS_213]
    have := hk m hI hG FrM_refl
    rw [show acc + rdC [] b = acc by show acc + 0 = acc; omega] at this
    exact this
  | cons a l ih =>
    intro j n acc b m K hI hG j0 hn n10 hC hf a0 a1 hk
    rw [List.length_cons] at hn
    obtain ⟨⟨c1, c2, c3⟩, c4⟩ := hC
    rw [s_X8_read_81]
    simp (disch := first | assumption | omega | ((simp (disch := omega) only [gU_row, mis_row, gU_same, gU_i, mis_i, gCp_row]); first | assumption | omega)) only [e_X8_read, s_X8_read_0, s_X8_read_1, s_X8_read_2, s_X8_read_5, s_X8_read_6, s_X8_read_7, s_X8_read_10, s_X8_read_11, s_X8_read_12, s_X8_read_13, s_X8_read_15, s_X8_read_16, s_X8_read_17, s_X8_read_20, s_X8_read_23, s_X8_read_24, s_X8_read_26, s_X8_read_29, s_X8_read_30, s_X8_read_32, s_X8_read_35, s_X8_read_38, s_X8_read_39, s_X8_read_42, s_X8_read_43, s_X8_read_46, s_X8_read_49, s_X8_read_50, s_X8_read_51, s_X8_read_54, s_X8_read_57, s_X8_read_58, s_X8_read_59, s_X8_read_62, s_X8_read_63, s_X8_read_66, s_X8_read_69, s_X8_read_71, s_X8_read_72, s_X8_read_75, s_X8_read_76, s_X8_read_77, s_X8_read_78, s_X8_read_79, s_X8_read_80, s_X8_read_82, s_X8_read_83, s_X8_read_86, s_X8_read_87, s_X8_read_88, s_X8_read_90, s_X8_read_91, s_X8_read_92, s_X8_read_95, s_X8_read_98, s_X8_read_99, s_X8_read_102, s_X8_read_103, s_X8_read_104, s_X8_read_105, s_X8_read_108, s_X8_read_111, s_X8_read_112, ↓reduceIte, Option.toList_some, Option.toList_none, List.cons_append, List.nil_append, List.singleton_append, List.append_nil, true_and, and_true, true_or, or_true, andT, iteT, iteF, itT, itF, zS_213, imul_ok]
    refine m_done hI hG j0 (by omega) (hf a List.mem_cons_self) c1 c2 c3 (fun m1 i1 f1 => ?_)
    have hG1 := GB_dT (a := a) hG (bm_s3 hI.1).1
    have r8 : m1 238 = m 238 := f1.1 238 (by omega)
    have r9 : m1 239 = m 239 := f1.1 239 (by omega)
    have nx : R (d + 16) M_X8_read 81 [(2, 213), (0, n), (0, acc + dOne b a), (0, j + 1)] [] (w0 L z X Y) m1 K := by
      refine ih (j + 1) n (acc + dOne b a) _ m1 K i1 hG1 (by omega) (by omega) n10 (by rw [r8, r9]; exact c4) (fun x hx => hf x (List.mem_cons_of_mem _ hx)) ?_ ?_ (fun m2 i2 g2 f2 => ?_)
      · unfold dOne; split <;> omega
      · unfold dOne; split <;> omega
      · have := hk m2 i2 g2 (FrM_trans f1 f2)
        rw [show acc + rdC (a :: l) b = acc + dOne b a + rdC l (aN b (dT b a)) by show acc + (dOne b a + _) = _; omega] at this
        exact this
    unfold dOne at nx ⊢
    by_cases ht : TryO (dT b a) = 0
    · rw [if_pos ht] at nx ⊢
      simp (disch := first | assumption | omega | ((simp (disch := omega) only [gU_row, mis_row, gU_same, gU_i, mis_i, gCp_row]); first | assumption | omega)) only [e_X8_read, s_X8_read_0, s_X8_read_1, s_X8_read_2, s_X8_read_5, s_X8_read_6, s_X8_read_7, s_X8_read_10, s_X8_read_11, s_X8_read_12, s_X8_read_13, s_X8_read_15, s_X8_read_16, s_X8_read_17, s_X8_read_20, s_X8_read_23, s_X8_read_24, s_X8_read_26, s_X8_read_29, s_X8_read_30, s_X8_read_32, s_X8_read_35, s_X8_read_38, s_X8_read_39, s_X8_read_42, s_X8_read_43, s_X8_read_46, s_X8_read_49, s_X8_read_50, s_X8_read_51, s_X8_read_54, s_X8_read_57, s_X8_read_58, s_X8_read_59, s_X8_read_62, s_X8_read_63, s_X8_read_66, s_X8_read_69, s_X8_read_71, s_X8_read_72, s_X8_read_75, s_X8_read_76, s_X8_read_77, s_X8_read_78, s_X8_read_79, s_X8_read_80, s_X8_read_82, s_X8_read_83, s_X8_read_86, s_X8_read_87, s_X8_read_88, s_X8_read_90, s_X8_read_91, s_X8_read_92, s_X8_read_95, s_X8_read_98, s_X8_read_99, s_X8_read_102, s_X8_read_103, s_X8_read_104, s_X8_read_105, s_X8_read_108, s_X8_read_111, s_X8_read_112, ↓reduceIte, Option.toList_some, Option.toList_none, List.cons_append, List.nil_append, List.singleton_append, List.append_nil, true_and, and_true, true_or, or_true, andT, iteT, iteF, itT, itF, zS_213, iadd_ok]
      exact nx
    · rw [if_neg ht] at nx ⊢
      rw [show acc + 0 = acc by omega] at nx
      have e0 : acc + 0 = acc := by omega
      simp (disch := first | assumption | omega | ((simp (disch := omega) only [gU_row, mis_row, gU_same, gU_i, mis_i, gCp_row]); first | assumption | omega)) only [e_X8_read, s_X8_read_0, s_X8_read_1, s_X8_read_2, s_X8_read_5, s_X8_read_6, s_X8_read_7, s_X8_read_10, s_X8_read_11, s_X8_read_12, s_X8_read_13, s_X8_read_15, s_X8_read_16, s_X8_read_17, s_X8_read_20, s_X8_read_23, s_X8_read_24, s_X8_read_26, s_X8_read_29, s_X8_read_30, s_X8_read_32, s_X8_read_35, s_X8_read_38, s_X8_read_39, s_X8_read_42, s_X8_read_43, s_X8_read_46, s_X8_read_49, s_X8_read_50, s_X8_read_51, s_X8_read_54, s_X8_read_57, s_X8_read_58, s_X8_read_59, s_X8_read_62, s_X8_read_63, s_X8_read_66, s_X8_read_69, s_X8_read_71, s_X8_read_72, s_X8_read_75, s_X8_read_76, s_X8_read_77, s_X8_read_78, s_X8_read_79, s_X8_read_80, s_X8_read_82, s_X8_read_83, s_X8_read_86, s_X8_read_87, s_X8_read_88, s_X8_read_90, s_X8_read_91, s_X8_read_92, s_X8_read_95, s_X8_read_98, s_X8_read_99, s_X8_read_102, s_X8_read_103, s_X8_read_104, s_X8_read_105, s_X8_read_108, s_X8_read_111, s_X8_read_112, ↓reduceIte, Option.toList_some, Option.toList_none, List.cons_append, List.nil_append, List.singleton_append, List.append_nil, true_and, and_true, true_or, or_true, andT, iteT, iteF, itT, itF, zS_213, iadd_ok, e0]
      exact nx
theorem MI_FrY (h : MI m b) (f : FrY m m') : MI m' b := by
  obtain ⟨hb, hD, hu⟩ := h
  exact ⟨by rw [f.1 214 (by omega) (by omega)]; exact hb, DerM_fr hD (fun i hi => f.2 i (by omega)) (fun a h1 h2 => f.1 a (by omega) (by omega)), fun o o0 o1 => by rw [f.1 236 (by omega) (by omega)]; exact hu o o0 o1⟩
theorem FrY_PS {A B : Int → Int} {p f : Int} : FrY m (gU (PS m p f A B) 213 35 0) := by
  refine ⟨fun a h1 h2 => ?_, fun i hi => ?_⟩
  · rw [gU_row h1]
    funext i
    unfold PS
    rw [if_neg (by omega), if_neg (by omega), if_neg (fun h => h1 h.1), if_neg (fun h => h1 h.1)]
  · rw [gU_ne (by omega)]
    unfold PS
    rw [if_neg (by omega), if_neg (by omega), if_neg (by omega), if_neg (by omega)]
set_option maxHeartbeats 1000000 in
theorem r_read [NeZero (z % 2)] (hI : MI m b) (hG : GB b) (hS : TXm m S) (ho : TXo S) (hk : ∀ m', MI m' (s_rd S b) → GB (s_rd S b) → FrMY m m' → TXm m' (0, S.2) → K (some (0, a_read S b)) (w0 L z X Y) m') : C (d + 17) M_X8_read [(2, 213)] (w0 L z X Y) m K := by
  have o1 := ho.1
  have bd := prs_bd (S := S) 10 0 (by omega) (by omega)
  have ok := prs_ok (S := S) 10 0 (by omega) (by omega)
  unfold s_rd a_read at hk
  have e1 : gU (gU m 213 36 0) 213 37 (-1) = PS m 0 (-1) (m 238) (m 239) := by
    rw [show gU (gU m 213 36 0) 213 37 (-1) = gU (gU (PS m (m 213 36) (m 213 37) (m 238) (m 239)) 213 36 0) 213 37 (-1) by rw [← PS_self], PS_w36, PS_w37]
  have main : R (d + 16) M_X8_read 12 [(2, 213), (0, 0), (3, 0), (3, 0)] [] (w0 L z X Y) (PS m 0 (-1) (m 238) (m 239)) K := by
    refine m_read_lp (d := d + 12) hS ho 10 0 0 (m 238) (m 239) K (by omega) (by omega) (by omega) (by omega) (by omega) (fun p' f' n A' B' u1 u2 u3 u4 => ?_)
    have fy := FrY_PS (m := m) (A := A') (B := B') (p := p') (f := f')
    have q37 : gU (PS m p' f' A' B') 213 35 0 213 37 = f' := by rw [gU_ne (by omega)]; exact PS_37
    have q35 : gU (PS m p' f' A' B') 213 35 0 213 35 = 0 := gU_same ..
    have q8 : gU (PS m p' f' A' B') 213 35 0 238 = A' := by rw [gU_row (by omega)]; funext i; exact PS_238
    have q9 : gU (PS m p' f' A' B') 213 35 0 239 = B' := by rw [gU_row (by omega)]; funext i; exact PS_239
    have i1 := MI_FrY hI fy
    rw [s_X8_read_57]
    by_cases h : (prs S 10 0).1 < 0
    · have h1 : (prs S 10 0).1 = -1 := by omega
      rw [if_pos h, if_pos h] at hk
      obtain ⟨v1, v2⟩ := u3 h1
      simp (disch := first | assumption | omega | ((simp (disch := omega) only [gU_row, mis_row, gU_same, gU_i, mis_i, gCp_row]); first | assumption | omega)) only [e_X8_read, s_X8_read_0, s_X8_read_1, s_X8_read_2, s_X8_read_5, s_X8_read_6, s_X8_read_7, s_X8_read_10, s_X8_read_11, s_X8_read_12, s_X8_read_13, s_X8_read_15, s_X8_read_16, s_X8_read_17, s_X8_read_20, s_X8_read_23, s_X8_read_24, s_X8_read_26, s_X8_read_29, s_X8_read_30, s_X8_read_32, s_X8_read_35, s_X8_read_38, s_X8_read_39, s_X8_read_42, s_X8_read_43, s_X8_read_46, s_X8_read_49, s_X8_read_50, s_X8_read_51, s_X8_read_54, s_X8_read_58, s_X8_read_59, s_X8_read_62, s_X8_read_63, s_X8_read_66, s_X8_read_69, s_X8_read_71, s_X8_read_72, s_X8_read_75, s_X8_read_76, s_X8_read_77, s_X8_read_78, s_X8_read_79, s_X8_read_80, s_X8_read_82, s_X8_read_83, s_X8_read_86, s_X8_read_87, s_X8_read_88, s_X8_read_90, s_X8_read_91, s_X8_read_92, s_X8_read_95, s_X8_read_98, s_X8_read_99, s_X8_read_102, s_X8_read_103, s_X8_read_104, s_X8_read_105, s_X8_read_108, s_X8_read_111, s_X8_read_112, ↓reduceIte, Option.toList_some, Option.toList_none, List.cons_append, List.nil_append, List.singleton_append, List.append_nil, true_and, and_true, true_or, or_true, andT, iteT, iteF, itT, itF, zS_213, zP_213_0, zP_213_1, zP_213_2, zP_213_3, zP_213_6, zP_213_7, zP_213_8, zP_213_9, zP_213_10, zP_213_11, zP_213_12, zP_213_13, zP_213_14, zP_213_15, zP_213_16, zP_213_17, zP_213_18, zP_213_19, zP_213_20, zP_213_21, zP_213_22, zP_213_23, zP_213_24, zP_213_32, zP_213_33, zP_213_34, zP_213_38, zP_213_39, zP_213_40, zP_213_41, zS_214, zS_215, zS_216, zS_217, zS_218, zS_219, zS_220, zS_221, zS_222, zS_223, zS_224, zS_225, zS_226, zS_227, zS_228, zS_229, zS_230, zS_231, zS_232, zS_233, zS_234, zS_235, zS_236, zS_237, zS_238, zS_239, zS_240, zS_241, zS_242, zS_243, q37]
      generalize gU (PS m p' f' A' B') 213 35 0 = m1 at *
      refine m_rd_lp (prs S 10 0).2 0 n 0 b m1 K i1 hG (by omega) (by omega) (by omega) (by rw [q8, q9]; exact v2) ok.1 (by omega) (by omega) (fun m2 i2 g2 f2 => ?_)
      rw [Int.zero_add]
      refine hk m2 i2 g2 ⟨fun a ha => by rw [f2.1 a (by omega), fy.1 a (by omega) (by omega)], fun i i0 i1 => by rw [f2.2 i i0 (by omega), fy.2 i (by omega)]⟩ ⟨by rw [f2.2 35 (by omega) (by omega)]; exact q35, fun i i0 i1 => absurd i1 (by show ¬ i < 0; omega)⟩
    · rw [if_neg h, if_neg h] at hk
      have fin := hk _ i1 hG ⟨fun a ha => fy.1 a (by omega) (by omega), fun i i0 i1 => fy.2 i (by omega)⟩ ⟨q35, fun i i0 i1 => absurd i1 (by show ¬ i < 0; omega)⟩
      rw [← u4] at fin
      simp (disch := first | assumption | omega | ((simp (disch := omega) only [gU_row, mis_row, gU_same, gU_i, mis_i, gCp_row]); first | assumption | omega)) only [e_X8_read, s_X8_read_0, s_X8_read_1, s_X8_read_2, s_X8_read_5, s_X8_read_6, s_X8_read_7, s_X8_read_10, s_X8_read_11, s_X8_read_12, s_X8_read_13, s_X8_read_15, s_X8_read_16, s_X8_read_17, s_X8_read_20, s_X8_read_23, s_X8_read_24, s_X8_read_26, s_X8_read_29, s_X8_read_30, s_X8_read_32, s_X8_read_35, s_X8_read_38, s_X8_read_39, s_X8_read_42, s_X8_read_43, s_X8_read_46, s_X8_read_49, s_X8_read_50, s_X8_read_51, s_X8_read_54, s_X8_read_58, s_X8_read_59, s_X8_read_62, s_X8_read_63, s_X8_read_66, s_X8_read_69, s_X8_read_71, s_X8_read_72, s_X8_read_75, s_X8_read_76, s_X8_read_77, s_X8_read_78, s_X8_read_79, s_X8_read_80, s_X8_read_82, s_X8_read_83, s_X8_read_86, s_X8_read_87, s_X8_read_88, s_X8_read_90, s_X8_read_91, s_X8_read_92, s_X8_read_95, s_X8_read_98, s_X8_read_99, s_X8_read_102, s_X8_read_103, s_X8_read_104, s_X8_read_105, s_X8_read_108, s_X8_read_111, s_X8_read_112, ↓reduceIte, Option.toList_some, Option.toList_none, List.cons_append, List.nil_append, List.singleton_append, List.append_nil, true_and, and_true, true_or, or_true, andT, iteT, iteF, itT, itF, zS_213, zP_213_0, zP_213_1, zP_213_2, zP_213_3, zP_213_6, zP_213_7, zP_213_8, zP_213_9, zP_213_10, zP_213_11, zP_213_12, zP_213_13, zP_213_14, zP_213_15, zP_213_16, zP_213_17, zP_213_18, zP_213_19, zP_213_20, zP_213_21, zP_213_22, zP_213_23, zP_213_24, zP_213_32, zP_213_33, zP_213_34, zP_213_38, zP_213_39, zP_213_40, zP_213_41, zS_214, zS_215, zS_216, zS_217, zS_218, zS_219, zS_220, zS_221, zS_222, zS_223, zS_224, zS_225, zS_226, zS_227, zS_228, zS_229, zS_230, zS_231, zS_232, zS_233, zS_234, zS_235, zS_236, zS_237, zS_238, zS_239, zS_240, zS_241, zS_242, zS_243, q37, isub_ok]
      exact fin
  simp (disch := first | assumption | omega | ((simp (disch := omega) only [gU_row, mis_row, gU_same, gU_i, mis_i, gCp_row]); first | assumption | omega)) only [e_X8_read, s_X8_read_0, s_X8_read_1, s_X8_read_2, s_X8_read_5, s_X8_read_6, s_X8_read_7, s_X8_read_10, s_X8_read_11, s_X8_read_13, s_X8_read_15, s_X8_read_16, s_X8_read_17, s_X8_read_20, s_X8_read_23, s_X8_read_24, s_X8_read_26, s_X8_read_29, s_X8_read_30, s_X8_read_32, s_X8_read_35, s_X8_read_38, s_X8_read_39, s_X8_read_42, s_X8_read_43, s_X8_read_46, s_X8_read_49, s_X8_read_50, s_X8_read_51, s_X8_read_54, s_X8_read_57, s_X8_read_58, s_X8_read_59, s_X8_read_62, s_X8_read_63, s_X8_read_66, s_X8_read_69, s_X8_read_71, s_X8_read_72, s_X8_read_75, s_X8_read_76, s_X8_read_77, s_X8_read_78, s_X8_read_79, s_X8_read_80, s_X8_read_81, s_X8_read_82, s_X8_read_83, s_X8_read_86, s_X8_read_87, s_X8_read_88, s_X8_read_90, s_X8_read_91, s_X8_read_92, s_X8_read_95, s_X8_read_98, s_X8_read_99, s_X8_read_102, s_X8_read_103, s_X8_read_104, s_X8_read_105, s_X8_read_108, s_X8_read_111, s_X8_read_112, ↓reduceIte, Option.toList_some, Option.toList_none, List.cons_append, List.nil_append, List.singleton_append, List.append_nil, true_and, and_true, true_or, or_true, andT, iteT, iteF, itT, itF, zS_213, zP_213_0, zP_213_1, zP_213_2, zP_213_3, zP_213_6, zP_213_7, zP_213_8, zP_213_9, zP_213_10, zP_213_11, zP_213_12, zP_213_13, zP_213_14, zP_213_15, zP_213_16, zP_213_17, zP_213_18, zP_213_19, zP_213_20, zP_213_21, zP_213_22, zP_213_23, zP_213_24, zP_213_32, zP_213_33, zP_213_34, zP_213_38, zP_213_39, zP_213_40, zP_213_41, zS_214, zS_215, zS_216, zS_217, zS_218, zS_219, zS_220, zS_221, zS_222, zS_223, zS_224, zS_225, zS_226, zS_227, zS_228, zS_229, zS_230, zS_231, zS_232, zS_233, zS_234, zS_235, zS_236, zS_237, zS_238, zS_239, zS_240, zS_241, zS_242, zS_243, e1]
  exact main
theorem ClC_fr : ∀ (l : List (Int × (Int → Int))) (i : Int) {m m' : gM}, 0 ≤ i → i + (l.length : Int) ≤ 10 → (∀ a, 189 ≤ a → a ≤ 200 → m' a = m a) → ClC m i l → ClC m' i l
  | [], _, _, _, _, _, _, _ => trivial
  | a :: l, i, m, m', i0, i1, h, ⟨⟨c1, c2⟩, c3⟩ => by
    rw [List.length_cons] at i1
    refine ⟨⟨by rw [h 189 (by omega) (by omega)]; exact c1, fun q q0 q1 => by rw [h (191 + i) (by omega) (by omega)]; exact c2 q q0 q1⟩, ?_⟩
    exact ClC_fr l (i + 1) (by omega) (by omega) h c3
set_option maxHeartbeats 1000000 in
theorem c_tryClause [NeZero (z % 2)] (hX : RB X) (hY : RB Y) (hne : X ≠ Y) (hbX : BK m (X + 1) b) (hbY : BK m (Y + 1) b2) (hst : St xs m) (hW : WB b) (hQ : WfQ b) (hr2 : wS (w0 L z X Y) r = (100, 6)) (hl : fm a.1 ≠ []) (hq : ∀ q, 0 ≤ q → q < cnt (fm a.1) → m r q = a.2 q) (hk : CT K L z X Y m (dT b a)) : C (d + 14) M_X7_tryClause [(2, 0), (0, a.1), (2, r)] (w0 L z X Y) m K := by
  obtain ⟨l, g⟩ := a
  have hl : fm l ≠ [] := hl
  have hq : ∀ q, 0 ≤ q → q < cnt (fm l) → m r q = g q := hq
  show C (d + 14) M_X7_tryClause [(2, 0), (0, l), (2, r)] (w0 L z X Y) m K
  have q0 : m r 0 = g 0 := by
    rcases fm_ne hl with h | h | h | h <;> subst h <;> exact hq 0 (by omega) (by decide)
  have q1 : m r 1 = g 1 := by
    rcases fm_ne hl with h | h | h | h <;> subst h <;> exact hq 1 (by omega) (by decide)
  rcases fm_ne hl with h | h | h | h
  · subst h
    have q2 : m r 2 = g 2 := hq 2 (by omega) (by decide)
    have q3 : m r 3 = g 3 := hq 3 (by omega) (by decide)
    have q4 : m r 4 = g 4 := hq 4 (by omega) (by decide)
    have hk : CT K L z X Y m (tTrade b (g 0) (g 1) (g 2) (g 3) (g 4)) := hk
    simp (disch := first | assumption | omega | (simp (disch := omega) only [gU_row, gU_same, gU_i, gCp_row] <;> omega)) only [e_X7_tryClause, s_X7_tryClause_0, s_X7_tryClause_1, s_X7_tryClause_36, s_X7_tryClause_37, s_X7_tryClause_38, s_X7_tryClause_39, s_X7_tryClause_40, s_X7_tryClause_41, s_X7_tryClause_42, s_X7_tryClause_43, s_X7_tryClause_44, s_X7_tryClause_45, s_X7_tryClause_46, s_X7_tryClause_47, s_X7_tryClause_48, s_X7_tryClause_49, s_X7_tryClause_50, s_X7_tryClause_51, s_X7_tryClause_52, s_X7_tryClause_55, s_X7_tryClause_56, s_X7_tryClause_57, s_X7_tryClause_58, s_X7_tryClause_59, s_X7_tryClause_60, s_X7_tryClause_61, s_X7_tryClause_62, s_X7_tryClause_63, s_X7_tryClause_64, s_X7_tryClause_65, s_X7_tryClause_66, s_X7_tryClause_69, s_X7_tryClause_70, s_X7_tryClause_71, s_X7_tryClause_72, s_X7_tryClause_73, s_X7_tryClause_74, s_X7_tryClause_75, s_X7_tryClause_76, s_X7_tryClause_77, s_X7_tryClause_78, s_X7_tryClause_79, s_X7_tryClause_80, s_X7_tryClause_81, s_X7_tryClause_82, s_X7_tryClause_83, s_X7_tryClause_84, s_X7_tryClause_85, s_X7_tryClause_86, s_X7_tryClause_87, s_X7_tryClause_88, s_X7_tryClause_89, s_X7_tryClause_92, s_X7_tryClause_93, s_X7_tryClause_94, s_X7_tryClause_95, s_X7_tryClause_96, s_X7_tryClause_97, s_X7_tryClause_98, s_X7_tryClause_99, s_X7_tryClause_100, s_X7_tryClause_101, s_X7_tryClause_104, ↓reduceIte, Option.toList_some, Option.toList_none, List.cons_append, List.nil_append, List.singleton_append, List.append_nil, true_and, and_true, true_or, or_true, andT, iteT, iteF, itT, itF, zS_0, hr2, q0, q1, q2, q3, q4, gSw]
    refine c_tryTrade hX hY hne hbX hbY hW hQ (fun m1 b1 f1 g1 h1 => ?_)
    simp (disch := first | assumption | omega | (simp (disch := omega) only [gU_row, gU_same, gU_i, gCp_row] <;> omega)) only [e_X7_tryClause, s_X7_tryClause_0, s_X7_tryClause_1, s_X7_tryClause_36, s_X7_tryClause_37, s_X7_tryClause_38, s_X7_tryClause_39, s_X7_tryClause_40, s_X7_tryClause_41, s_X7_tryClause_42, s_X7_tryClause_43, s_X7_tryClause_44, s_X7_tryClause_45, s_X7_tryClause_46, s_X7_tryClause_47, s_X7_tryClause_48, s_X7_tryClause_49, s_X7_tryClause_50, s_X7_tryClause_51, s_X7_tryClause_52, s_X7_tryClause_55, s_X7_tryClause_56, s_X7_tryClause_57, s_X7_tryClause_58, s_X7_tryClause_59, s_X7_tryClause_60, s_X7_tryClause_61, s_X7_tryClause_62, s_X7_tryClause_63, s_X7_tryClause_64, s_X7_tryClause_65, s_X7_tryClause_66, s_X7_tryClause_69, s_X7_tryClause_70, s_X7_tryClause_71, s_X7_tryClause_72, s_X7_tryClause_73, s_X7_tryClause_74, s_X7_tryClause_75, s_X7_tryClause_76, s_X7_tryClause_77, s_X7_tryClause_78, s_X7_tryClause_79, s_X7_tryClause_80, s_X7_tryClause_81, s_X7_tryClause_82, s_X7_tryClause_83, s_X7_tryClause_84, s_X7_tryClause_85, s_X7_tryClause_86, s_X7_tryClause_87, s_X7_tryClause_88, s_X7_tryClause_89, s_X7_tryClause_92, s_X7_tryClause_93, s_X7_tryClause_94, s_X7_tryClause_95, s_X7_tryClause_96, s_X7_tryClause_97, s_X7_tryClause_98, s_X7_tryClause_99, s_X7_tryClause_100, s_X7_tryClause_101, s_X7_tryClause_104, ↓reduceIte, Option.toList_some, Option.toList_none, List.cons_append, List.nil_append, List.singleton_append, List.append_nil, true_and, and_true, true_or, or_true, andT, iteT, iteF, itT, itF]
    exact hk m1 b1 f1 g1 h1
  · subst h
    have q2 : m r 2 = g 2 := hq 2 (by omega) (by decide)
    have hk : CT K L z X Y m (tMove b (g 0) (g 1) (g 2)) := hk
    simp (disch := first | assumption | omega | (simp (disch := omega) only [gU_row, gU_same, gU_i, gCp_row] <;> omega)) only [e_X7_tryClause, s_X7_tryClause_0, s_X7_tryClause_1, s_X7_tryClause_36, s_X7_tryClause_37, s_X7_tryClause_38, s_X7_tryClause_39, s_X7_tryClause_40, s_X7_tryClause_41, s_X7_tryClause_42, s_X7_tryClause_43, s_X7_tryClause_44, s_X7_tryClause_45, s_X7_tryClause_46, s_X7_tryClause_47, s_X7_tryClause_48, s_X7_tryClause_49, s_X7_tryClause_50, s_X7_tryClause_51, s_X7_tryClause_52, s_X7_tryClause_55, s_X7_tryClause_56, s_X7_tryClause_57, s_X7_tryClause_58, s_X7_tryClause_59, s_X7_tryClause_60, s_X7_tryClause_61, s_X7_tryClause_62, s_X7_tryClause_63, s_X7_tryClause_64, s_X7_tryClause_65, s_X7_tryClause_66, s_X7_tryClause_69, s_X7_tryClause_70, s_X7_tryClause_71, s_X7_tryClause_72, s_X7_tryClause_73, s_X7_tryClause_74, s_X7_tryClause_75, s_X7_tryClause_76, s_X7_tryClause_77, s_X7_tryClause_78, s_X7_tryClause_79, s_X7_tryClause_80, s_X7_tryClause_81, s_X7_tryClause_82, s_X7_tryClause_83, s_X7_tryClause_84, s_X7_tryClause_85, s_X7_tryClause_86, s_X7_tryClause_87, s_X7_tryClause_88, s_X7_tryClause_89, s_X7_tryClause_92, s_X7_tryClause_93, s_X7_tryClause_94, s_X7_tryClause_95, s_X7_tryClause_96, s_X7_tryClause_97, s_X7_tryClause_98, s_X7_tryClause_99, s_X7_tryClause_100, s_X7_tryClause_101, s_X7_tryClause_104, ↓reduceIte, Option.toList_some, Option.toList_none, List.cons_append, List.nil_append, List.singleton_append, List.append_nil, true_and, and_true, true_or, or_true, andT, iteT, iteF, itT, itF, zS_0, hr2, q0, q1, q2, gSw]
    refine c_tryMove hX hY hne hbX hbY hst hW hQ (fun m1 b1 f1 g1 h1 => ?_)
    simp (disch := first | assumption | omega | (simp (disch := omega) only [gU_row, gU_same, gU_i, gCp_row] <;> omega)) only [e_X7_tryClause, s_X7_tryClause_0, s_X7_tryClause_1, s_X7_tryClause_36, s_X7_tryClause_37, s_X7_tryClause_38, s_X7_tryClause_39, s_X7_tryClause_40, s_X7_tryClause_41, s_X7_tryClause_42, s_X7_tryClause_43, s_X7_tryClause_44, s_X7_tryClause_45, s_X7_tryClause_46, s_X7_tryClause_47, s_X7_tryClause_48, s_X7_tryClause_49, s_X7_tryClause_50, s_X7_tryClause_51, s_X7_tryClause_52, s_X7_tryClause_55, s_X7_tryClause_56, s_X7_tryClause_57, s_X7_tryClause_58, s_X7_tryClause_59, s_X7_tryClause_60, s_X7_tryClause_61, s_X7_tryClause_62, s_X7_tryClause_63, s_X7_tryClause_64, s_X7_tryClause_65, s_X7_tryClause_66, s_X7_tryClause_69, s_X7_tryClause_70, s_X7_tryClause_71, s_X7_tryClause_72, s_X7_tryClause_73, s_X7_tryClause_74, s_X7_tryClause_75, s_X7_tryClause_76, s_X7_tryClause_77, s_X7_tryClause_78, s_X7_tryClause_79, s_X7_tryClause_80, s_X7_tryClause_81, s_X7_tryClause_82, s_X7_tryClause_83, s_X7_tryClause_84, s_X7_tryClause_85, s_X7_tryClause_86, s_X7_tryClause_87, s_X7_tryClause_88, s_X7_tryClause_89, s_X7_tryClause_92, s_X7_tryClause_93, s_X7_tryClause_94, s_X7_tryClause_95, s_X7_tryClause_96, s_X7_tryClause_97, s_X7_tryClause_98, s_X7_tryClause_99, s_X7_tryClause_100, s_X7_tryClause_101, s_X7_tryClause_104, ↓reduceIte, Option.toList_some, Option.toList_none, List.cons_append, List.nil_append, List.singleton_append, List.append_nil, true_and, and_true, true_or, or_true, andT, iteT, iteF, itT, itF]
    exact hk m1 b1 f1 g1 h1
  · subst h
    have q2 : m r 2 = g 2 := hq 2 (by omega) (by decide)
    have q3 : m r 3 = g 3 := hq 3 (by omega) (by decide)
    have q4 : m r 4 = g 4 := hq 4 (by omega) (by decide)
    have q5 : m r 5 = g 5 := hq 5 (by omega) (by decide)
    have hk : CT K L z X Y m (tOffset b (g 0) (g 1) (g 2) (g 3) (g 4) (g 5)) := hk
    simp (disch := first | assumption | omega | (simp (disch := omega) only [gU_row, gU_same, gU_i, gCp_row] <;> omega)) only [e_X7_tryClause, s_X7_tryClause_0, s_X7_tryClause_1, s_X7_tryClause_36, s_X7_tryClause_37, s_X7_tryClause_38, s_X7_tryClause_39, s_X7_tryClause_40, s_X7_tryClause_41, s_X7_tryClause_42, s_X7_tryClause_43, s_X7_tryClause_44, s_X7_tryClause_45, s_X7_tryClause_46, s_X7_tryClause_47, s_X7_tryClause_48, s_X7_tryClause_49, s_X7_tryClause_50, s_X7_tryClause_51, s_X7_tryClause_52, s_X7_tryClause_55, s_X7_tryClause_56, s_X7_tryClause_57, s_X7_tryClause_58, s_X7_tryClause_59, s_X7_tryClause_60, s_X7_tryClause_61, s_X7_tryClause_62, s_X7_tryClause_63, s_X7_tryClause_64, s_X7_tryClause_65, s_X7_tryClause_66, s_X7_tryClause_69, s_X7_tryClause_70, s_X7_tryClause_71, s_X7_tryClause_72, s_X7_tryClause_73, s_X7_tryClause_74, s_X7_tryClause_75, s_X7_tryClause_76, s_X7_tryClause_77, s_X7_tryClause_78, s_X7_tryClause_79, s_X7_tryClause_80, s_X7_tryClause_81, s_X7_tryClause_82, s_X7_tryClause_83, s_X7_tryClause_84, s_X7_tryClause_85, s_X7_tryClause_86, s_X7_tryClause_87, s_X7_tryClause_88, s_X7_tryClause_89, s_X7_tryClause_92, s_X7_tryClause_93, s_X7_tryClause_94, s_X7_tryClause_95, s_X7_tryClause_96, s_X7_tryClause_97, s_X7_tryClause_98, s_X7_tryClause_99, s_X7_tryClause_100, s_X7_tryClause_101, s_X7_tryClause_104, ↓reduceIte, Option.toList_some, Option.toList_none, List.cons_append, List.nil_append, List.singleton_append, List.append_nil, true_and, and_true, true_or, or_true, andT, iteT, iteF, itT, itF, zS_0, hr2, q0, q1, q2, q3, q4, q5, gSw]
    refine c_tryOffset hX hY hne hbX hbY hW hQ (fun m1 b1 f1 g1 h1 => ?_)
    simp (disch := first | assumption | omega | (simp (disch := omega) only [gU_row, gU_same, gU_i, gCp_row] <;> omega)) only [e_X7_tryClause, s_X7_tryClause_0, s_X7_tryClause_1, s_X7_tryClause_36, s_X7_tryClause_37, s_X7_tryClause_38, s_X7_tryClause_39, s_X7_tryClause_40, s_X7_tryClause_41, s_X7_tryClause_42, s_X7_tryClause_43, s_X7_tryClause_44, s_X7_tryClause_45, s_X7_tryClause_46, s_X7_tryClause_47, s_X7_tryClause_48, s_X7_tryClause_49, s_X7_tryClause_50, s_X7_tryClause_51, s_X7_tryClause_52, s_X7_tryClause_55, s_X7_tryClause_56, s_X7_tryClause_57, s_X7_tryClause_58, s_X7_tryClause_59, s_X7_tryClause_60, s_X7_tryClause_61, s_X7_tryClause_62, s_X7_tryClause_63, s_X7_tryClause_64, s_X7_tryClause_65, s_X7_tryClause_66, s_X7_tryClause_69, s_X7_tryClause_70, s_X7_tryClause_71, s_X7_tryClause_72, s_X7_tryClause_73, s_X7_tryClause_74, s_X7_tryClause_75, s_X7_tryClause_76, s_X7_tryClause_77, s_X7_tryClause_78, s_X7_tryClause_79, s_X7_tryClause_80, s_X7_tryClause_81, s_X7_tryClause_82, s_X7_tryClause_83, s_X7_tryClause_84, s_X7_tryClause_85, s_X7_tryClause_86, s_X7_tryClause_87, s_X7_tryClause_88, s_X7_tryClause_89, s_X7_tryClause_92, s_X7_tryClause_93, s_X7_tryClause_94, s_X7_tryClause_95, s_X7_tryClause_96, s_X7_tryClause_97, s_X7_tryClause_98, s_X7_tryClause_99, s_X7_tryClause_100, s_X7_tryClause_101, s_X7_tryClause_104, ↓reduceIte, Option.toList_some, Option.toList_none, List.cons_append, List.nil_append, List.singleton_append, List.append_nil, true_and, and_true, true_or, or_true, andT, iteT, iteF, itT, itF]
    exact hk m1 b1 f1 g1 h1
  · subst h
    have hk : CT K L z X Y m (tGround b (g 0) 0 (g 1)) := hk
    simp (disch := first | assumption | omega | (simp (disch := omega) only [gU_row, gU_same, gU_i, gCp_row] <;> omega)) only [e_X7_tryClause, s_X7_tryClause_0, s_X7_tryClause_1, s_X7_tryClause_36, s_X7_tryClause_37, s_X7_tryClause_38, s_X7_tryClause_39, s_X7_tryClause_40, s_X7_tryClause_41, s_X7_tryClause_42, s_X7_tryClause_43, s_X7_tryClause_44, s_X7_tryClause_45, s_X7_tryClause_46, s_X7_tryClause_47, s_X7_tryClause_48, s_X7_tryClause_49, s_X7_tryClause_50, s_X7_tryClause_51, s_X7_tryClause_52, s_X7_tryClause_55, s_X7_tryClause_56, s_X7_tryClause_57, s_X7_tryClause_58, s_X7_tryClause_59, s_X7_tryClause_60, s_X7_tryClause_61, s_X7_tryClause_62, s_X7_tryClause_63, s_X7_tryClause_64, s_X7_tryClause_65, s_X7_tryClause_66, s_X7_tryClause_69, s_X7_tryClause_70, s_X7_tryClause_71, s_X7_tryClause_72, s_X7_tryClause_73, s_X7_tryClause_74, s_X7_tryClause_75, s_X7_tryClause_76, s_X7_tryClause_77, s_X7_tryClause_78, s_X7_tryClause_79, s_X7_tryClause_80, s_X7_tryClause_81, s_X7_tryClause_82, s_X7_tryClause_83, s_X7_tryClause_84, s_X7_tryClause_85, s_X7_tryClause_86, s_X7_tryClause_87, s_X7_tryClause_88, s_X7_tryClause_89, s_X7_tryClause_92, s_X7_tryClause_93, s_X7_tryClause_94, s_X7_tryClause_95, s_X7_tryClause_96, s_X7_tryClause_97, s_X7_tryClause_98, s_X7_tryClause_99, s_X7_tryClause_100, s_X7_tryClause_101, s_X7_tryClause_104, ↓reduceIte, Option.toList_some, Option.toList_none, List.cons_append, List.nil_append, List.singleton_append, List.append_nil, true_and, and_true, true_or, or_true, andT, iteT, iteF, itT, itF, zS_0, hr2, q0, q1, gSw]
    refine c_tryGround hX hY hne hbX hbY hst hW hQ (fun m1 b1 f1 g1 h1 => ?_)
    simp (disch := first | assumption | omega | (simp (disch := omega) only [gU_row, gU_same, gU_i, gCp_row] <;> omega)) only [e_X7_tryClause, s_X7_tryClause_0, s_X7_tryClause_1, s_X7_tryClause_36, s_X7_tryClause_37, s_X7_tryClause_38, s_X7_tryClause_39, s_X7_tryClause_40, s_X7_tryClause_41, s_X7_tryClause_42, s_X7_tryClause_43, s_X7_tryClause_44, s_X7_tryClause_45, s_X7_tryClause_46, s_X7_tryClause_47, s_X7_tryClause_48, s_X7_tryClause_49, s_X7_tryClause_50, s_X7_tryClause_51, s_X7_tryClause_52, s_X7_tryClause_55, s_X7_tryClause_56, s_X7_tryClause_57, s_X7_tryClause_58, s_X7_tryClause_59, s_X7_tryClause_60, s_X7_tryClause_61, s_X7_tryClause_62, s_X7_tryClause_63, s_X7_tryClause_64, s_X7_tryClause_65, s_X7_tryClause_66, s_X7_tryClause_69, s_X7_tryClause_70, s_X7_tryClause_71, s_X7_tryClause_72, s_X7_tryClause_73, s_X7_tryClause_74, s_X7_tryClause_75, s_X7_tryClause_76, s_X7_tryClause_77, s_X7_tryClause_78, s_X7_tryClause_79, s_X7_tryClause_80, s_X7_tryClause_81, s_X7_tryClause_82, s_X7_tryClause_83, s_X7_tryClause_84, s_X7_tryClause_85, s_X7_tryClause_86, s_X7_tryClause_87, s_X7_tryClause_88, s_X7_tryClause_89, s_X7_tryClause_92, s_X7_tryClause_93, s_X7_tryClause_94, s_X7_tryClause_95, s_X7_tryClause_96, s_X7_tryClause_97, s_X7_tryClause_98, s_X7_tryClause_99, s_X7_tryClause_100, s_X7_tryClause_101, s_X7_tryClause_104, ↓reduceIte, Option.toList_some, Option.toList_none, List.cons_append, List.nil_append, List.singleton_append, List.append_nil, true_and, and_true, true_or, or_true, andT, iteT, iteF, itT, itF]
    exact hk m1 b1 f1 g1 h1
set_option maxHeartbeats 1000000 in
theorem c_rd_lp [NeZero (z % 2)] {pr : Int} : ∀ (l : List (Int × (Int → Int))) (j acc : Int) (b : Bk) (m : gM) (X Y : Int) (K : Option gV → gW → gM → Prop), CI xs m X Y b kb → GB b → 0 ≤ j → j + (l.length : Int) = m 188 1 → m 188 1 ≤ 10 → ClC m j l → (∀ a ∈ l, fm a.1 ≠ []) → 0 ≤ acc → acc ≤ j → (∀ m' X' Y', CI xs m' X' Y' (rdB l b) kb → GB (rdB l b) → FrK m m' → K (some (0, acc + rdC l b)) (w0 L z X' Y') m') → R (d + 14) M_X7_read 29 [(2, 0), (0, pr), (0, acc), (0, j)] [] (w0 L z X Y) m K := by
  intro l
  induction l with
  | nil =>
    intro j acc b m X Y K hI hG j0 hn n10 hC hf a0 a1 hk
    have hn' : m 188 1 = j := by simpa using hn.symm
    rw [s_X7_read_29]
    simp (disch := first | assumption | omega | (simp (disch := omega) only [gU_row, gU_same, gU_i, gCp_row] <;> omega)) only [e_X7_read, s_X7_read_0, s_X7_read_1, s_X7_read_4, s_X7_read_7, s_X7_read_8, s_X7_read_9, s_X7_read_12, s_X7_read_13, s_X7_read_16, s_X7_read_17, s_X7_read_20, s_X7_read_22, s_X7_read_23, s_X7_read_24, s_X7_read_25, s_X7_read_26, s_X7_read_27, s_X7_read_28, s_X7_read_30, s_X7_read_31, s_X7_read_34, s_X7_read_37, s_X7_read_40, s_X7_read_41, s_X7_read_42, s_X7_read_45, s_X7_read_48, s_X7_read_49, s_X7_read_50, s_X7_read_51, s_X7_read_54, s_X7_read_57, s_X7_read_58, s_X7_read_59, s_X7_read_62, s_X7_read_65, s_X7_read_66, s_X7_read_69, s_X7_read_72, s_X7_read_75, s_X7_read_78, s_X7_read_79, ↓reduceIte, Option.toList_some, Option.toList_none, List.cons_append, List.nil_append, List.singleton_append, List.append_nil, true_and, and_true, true_or, or_true, andT, iteT, iteF, itT, itF, zS_0, zP_0_0, zP_0_1, zP_0_2, zP_0_4, zP_0_5, zP_0_6, zS_188, zP_188_2, zP_188_3, hn']
    have := hk m X Y hI hG FrK_refl
    rw [show acc + rdC [] b = acc by show acc + 0 = acc; omega] at this
    exact this
  | cons a l ih =>
    intro j acc b m X Y K hI hG j0 hn n10 hC hf a0 a1 hk
    rw [List.length_cons] at hn
    obtain ⟨⟨c1, c2⟩, c4⟩ := hC
    have hI' := hI
    obtain ⟨⟨hX, hY, hne⟩, hbX, ⟨b2, hbY⟩, hbK, hD, hst⟩ := hI'
    have hG' := hG
    obtain ⟨hW, hff⟩ := hG'
    have x0 := RB_bd hX
    have y0 := RB_bd hY
    have hj' : j = 0 ∨ j = 1 ∨ j = 2 ∨ j = 3 ∨ j = 4 ∨ j = 5 ∨ j = 6 ∨ j = 7 ∨ j = 8 ∨ j = 9 := by omega
    have hr : wP (w0 L z X Y) 190 j = 191 + j := by rcases hj' with h | h | h | h | h | h | h | h | h | h <;> subst h <;> rfl
    have hr2 : wS (w0 L z X Y) (191 + j) = (100, 6) := by rcases hj' with h | h | h | h | h | h | h | h | h | h <;> subst h <;> rfl
    rw [s_X7_read_29]
    simp (disch := first | assumption | omega | (simp (disch := omega) only [gU_row, gU_same, gU_i, gCp_row] <;> omega)) only [e_X7_read, s_X7_read_0, s_X7_read_1, s_X7_read_4, s_X7_read_7, s_X7_read_8, s_X7_read_9, s_X7_read_12, s_X7_read_13, s_X7_read_16, s_X7_read_17, s_X7_read_20, s_X7_read_22, s_X7_read_23, s_X7_read_24, s_X7_read_25, s_X7_read_26, s_X7_read_27, s_X7_read_28, s_X7_read_30, s_X7_read_31, s_X7_read_34, s_X7_read_37, s_X7_read_40, s_X7_read_41, s_X7_read_42, s_X7_read_45, s_X7_read_48, s_X7_read_49, s_X7_read_50, s_X7_read_51, s_X7_read_54, s_X7_read_57, s_X7_read_58, s_X7_read_59, s_X7_read_62, s_X7_read_65, s_X7_read_66, s_X7_read_69, s_X7_read_72, s_X7_read_75, s_X7_read_78, s_X7_read_79, ↓reduceIte, Option.toList_some, Option.toList_none, List.cons_append, List.nil_append, List.singleton_append, List.append_nil, true_and, and_true, true_or, or_true, andT, iteT, iteF, itT, itF, zS_0, zP_0_0, zP_0_1, zP_0_2, zP_0_4, zP_0_5, zP_0_6, zS_188, zP_188_2, zP_188_3, zS_189, zS_190, hr, c1]
    refine c_tryClause hX hY hne hbX hbY hst hW hff.1 hr2 (hf a List.mem_cons_self) c2 (fun m1 b1 f1 g1 h1 => ?_)
    have hG1 := GB_dT (a := a) hG (BK_s3 hbX).1
    have fk : FrK m m1 := FrK_Fr f1 (by omega) (by omega)
    have ee : m1 188 = m 188 := fk 188 (by omega)
    have cl : ClC m1 (j + 1) l := ClC_fr l (j + 1) (by omega) (by omega) (fun a h1 h2 => fk a (by omega)) c4
    by_cases ht : TryO (dT b a) = 0
    · obtain ⟨e1, d1, hf1⟩ := h1 ht
      subst e1
      have hI1 := CI_acc hI f1 g1 d1
      have es : acc + rdC (a :: l) b = acc + 1 + rdC l (dT b a).2 := by
        show acc + (dOne b a + rdC l (aN b (dT b a))) = _
        unfold dOne
        rw [if_pos ht, aN_1 ht]; omega
      have eb : rdB (a :: l) b = rdB l (dT b a).2 := by
        show rdB l (aN b (dT b a)) = _
        rw [aN_1 ht]
      rw [aN_1 ht] at hG1
      have nx : R (d + 14) M_X7_read 29 [(2, 0), (0, pr), (0, acc + 1), (0, j + 1)] [] (w0 L z Y X) m1 K := by
        refine ih (j + 1) (acc + 1) _ m1 Y X K hI1 hG1 (by omega) (by rw [ee]; omega) (by rw [ee]; exact n10) cl (fun x hx => hf x (List.mem_cons_of_mem _ hx)) (by omega) (by omega) (fun m2 X2 Y2 i2 g2 f2 => ?_)
        rw [es, eb] at hk
        exact hk m2 X2 Y2 i2 g2 (FrK_trans fk f2)
      simp (disch := first | assumption | omega | (simp (disch := omega) only [gU_row, gU_same, gU_i, gCp_row] <;> omega)) only [e_X7_read, s_X7_read_0, s_X7_read_1, s_X7_read_4, s_X7_read_7, s_X7_read_8, s_X7_read_9, s_X7_read_12, s_X7_read_13, s_X7_read_16, s_X7_read_17, s_X7_read_20, s_X7_read_22, s_X7_read_23, s_X7_read_24, s_X7_read_25, s_X7_read_26, s_X7_read_27, s_X7_read_28, s_X7_read_30, s_X7_read_31, s_X7_read_34, s_X7_read_37, s_X7_read_40, s_X7_read_41, s_X7_read_42, s_X7_read_45, s_X7_read_48, s_X7_read_49, s_X7_read_50, s_X7_read_51, s_X7_read_54, s_X7_read_57, s_X7_read_58, s_X7_read_59, s_X7_read_62, s_X7_read_65, s_X7_read_66, s_X7_read_69, s_X7_read_72, s_X7_read_75, s_X7_read_78, s_X7_read_79, ↓reduceIte, Option.toList_some, Option.toList_none, List.cons_append, List.nil_append, List.singleton_append, List.append_nil, true_and, and_true, true_or, or_true, andT, iteT, iteF, itT, itF, zS_0, zP_0_0, zP_0_1, zP_0_2, zP_0_4, zP_0_5, zP_0_6, ht, c_accept hX hY, iadd_ok, ne_eq, not_true_eq_false]
      exact nx
    · have hI1 := CI_try hI f1 g1
      have es : acc + rdC (a :: l) b = acc + rdC l b := by
        show acc + (dOne b a + rdC l (aN b (dT b a))) = _
        unfold dOne
        rw [if_neg ht, aN_0 ht]; omega
      have eb : rdB (a :: l) b = rdB l b := by
        show rdB l (aN b (dT b a)) = _
        rw [aN_0 ht]
      have nx : R (d + 14) M_X7_read 29 [(2, 0), (0, pr), (0, acc), (0, j + 1)] [] (w0 L z X Y) m1 K := by
        refine ih (j + 1) acc b m1 X Y K hI1 hG (by omega) (by rw [ee]; omega) (by rw [ee]; exact n10) cl (fun x hx => hf x (List.mem_cons_of_mem _ hx)) (by omega) (by omega) (fun m2 X2 Y2 i2 g2 f2 => ?_)
        rw [es, eb] at hk
        exact hk m2 X2 Y2 i2 g2 (FrK_trans fk f2)
      simp (disch := first | assumption | omega | (simp (disch := omega) only [gU_row, gU_same, gU_i, gCp_row] <;> omega)) only [e_X7_read, s_X7_read_0, s_X7_read_1, s_X7_read_4, s_X7_read_7, s_X7_read_8, s_X7_read_9, s_X7_read_12, s_X7_read_13, s_X7_read_16, s_X7_read_17, s_X7_read_20, s_X7_read_22, s_X7_read_23, s_X7_read_24, s_X7_read_25, s_X7_read_26, s_X7_read_27, s_X7_read_28, s_X7_read_30, s_X7_read_31, s_X7_read_34, s_X7_read_37, s_X7_read_40, s_X7_read_41, s_X7_read_42, s_X7_read_45, s_X7_read_48, s_X7_read_49, s_X7_read_50, s_X7_read_51, s_X7_read_54, s_X7_read_57, s_X7_read_58, s_X7_read_59, s_X7_read_62, s_X7_read_65, s_X7_read_66, s_X7_read_69, s_X7_read_72, s_X7_read_75, s_X7_read_78, s_X7_read_79, ↓reduceIte, Option.toList_some, Option.toList_none, List.cons_append, List.nil_append, List.singleton_append, List.append_nil, true_and, and_true, true_or, or_true, andT, iteT, iteF, itT, itF, zS_0, zP_0_0, zP_0_1, zP_0_2, zP_0_4, zP_0_5, zP_0_6, iadd_ok, ne_eq, not_false_eq_true]
      exact nx
set_option maxHeartbeats 1000000 in
theorem p_read [NeZero (z % 2)] (hI : CI xs m X Y b kb) (hG : GB b) (hS : TXc m S) (ho : TXo S) (hk : ∀ m' X' Y', CI xs m' X' Y' (s_rd S b) kb → GB (s_rd S b) → FrKX m m' → TXc m' (0, S.2) → K (some (0, a_read S b)) (w0 L z X' Y') m') : C (d + 15) M_X7_read [(2, 0)] (w0 L z X Y) m K := by
  have o1 := ho.1
  have bd := prs_bd (S := S) 10 0 (by omega) (by omega)
  have ok := prs_ok (S := S) 10 0 (by omega) (by omega)
  unfold s_rd a_read at hk
  have hst := hI.2.2.2.2.2
  simp (disch := first | assumption | omega | (simp (disch := omega) only [gU_row, gU_same, gU_i, gCp_row] <;> omega)) only [e_X7_read, s_X7_read_0, s_X7_read_1, s_X7_read_4, s_X7_read_7, s_X7_read_8, s_X7_read_9, s_X7_read_12, s_X7_read_13, s_X7_read_16, s_X7_read_17, s_X7_read_20, s_X7_read_22, s_X7_read_23, s_X7_read_24, s_X7_read_25, s_X7_read_26, s_X7_read_27, s_X7_read_28, s_X7_read_30, s_X7_read_31, s_X7_read_34, s_X7_read_37, s_X7_read_40, s_X7_read_41, s_X7_read_42, s_X7_read_45, s_X7_read_48, s_X7_read_49, s_X7_read_50, s_X7_read_51, s_X7_read_54, s_X7_read_57, s_X7_read_58, s_X7_read_59, s_X7_read_62, s_X7_read_65, s_X7_read_66, s_X7_read_69, s_X7_read_72, s_X7_read_75, s_X7_read_78, s_X7_read_79, ↓reduceIte, Option.toList_some, Option.toList_none, List.cons_append, List.nil_append, List.singleton_append, List.append_nil, true_and, and_true, true_or, or_true, andT, iteT, iteF, itT, itF, zS_0, zP_0_0, zP_0_1, zP_0_2, zP_0_4, zP_0_5, zP_0_6, zS_188]
  refine c_parse (d := d + 8) hst ho hS (fun m1 f1 u1 u2 u3 => ?_)
  have fr1 : ∀ a, a < 188 → m1 a = m a := fun a ha => by
    funext j
    exact f1 a j (by omega) (by omega) (by omega)
  have i1 : CI xs (gU m1 188 0 0) X Y b kb := CI_fr hI (fun a h1 _ _ _ _ _ _ => by rw [gU_row (by omega)]; exact fr1 a h1)
  have fr2 : ∀ a, 200 < a → m1 a = m a := fun a ha => by
    funext j
    exact f1 a j (by omega) (by omega) (by omega)
  by_cases h : (prs S 10 0).1 < 0
  · have h1 : (prs S 10 0).1 = -1 := by omega
    rw [if_pos h, if_pos h] at hk
    obtain ⟨v1, v2⟩ := u1 h1
    have e1 : gU m1 188 0 0 188 1 = ((prs S 10 0).2.length : Int) := by rw [gU_ne (by omega)]; exact v1
    rw [h1]
    simp (disch := first | assumption | omega | (simp (disch := omega) only [gU_row, gU_same, gU_i, gCp_row] <;> omega)) only [e_X7_read, s_X7_read_0, s_X7_read_1, s_X7_read_4, s_X7_read_7, s_X7_read_8, s_X7_read_9, s_X7_read_12, s_X7_read_13, s_X7_read_16, s_X7_read_17, s_X7_read_20, s_X7_read_22, s_X7_read_23, s_X7_read_24, s_X7_read_25, s_X7_read_26, s_X7_read_27, s_X7_read_28, s_X7_read_30, s_X7_read_31, s_X7_read_34, s_X7_read_37, s_X7_read_40, s_X7_read_41, s_X7_read_42, s_X7_read_45, s_X7_read_48, s_X7_read_49, s_X7_read_50, s_X7_read_51, s_X7_read_54, s_X7_read_57, s_X7_read_58, s_X7_read_59, s_X7_read_62, s_X7_read_65, s_X7_read_66, s_X7_read_69, s_X7_read_72, s_X7_read_75, s_X7_read_78, s_X7_read_79, ↓reduceIte, Option.toList_some, Option.toList_none, List.cons_append, List.nil_append, List.singleton_append, List.append_nil, true_and, and_true, true_or, or_true, andT, iteT, iteF, itT, itF, zS_0, zP_0_0, zP_0_1, zP_0_2, zP_0_4, zP_0_5, zP_0_6, zS_188]
    refine c_rd_lp (prs S 10 0).2 0 0 b _ X Y K i1 hG (by omega) (by rw [e1]; omega) (by rw [e1]; omega) (ClC_fr _ 0 (by omega) (by omega) (fun a h1 h2 => gU_row (by omega)) v2) ok.1 (by omega) (by omega) (fun m2 X2 Y2 i2 g2 f2 => ?_)
    rw [Int.zero_add]
    refine hk m2 X2 Y2 i2 g2 (fun a ha => ?_) ⟨?_, fun i i0 i1 => absurd i1 (by show ¬ i < 0; omega)⟩
    · rw [f2 a (by omega), gU_row (by omega)]
      rcases ha with ha | ha | ha
      · exact fr1 a (by omega)
      · exact fr1 a (by omega)
      · exact fr2 a (by omega)
    · rw [f2 188 (by omega)]; exact gU_same ..
  · rw [if_neg h, if_neg h] at hk
    have fin := hk _ X Y i1 hG (fun a ha => by
      rw [gU_row (by omega)]
      rcases ha with ha | ha | ha
      · exact fr1 a (by omega)
      · exact fr1 a (by omega)
      · exact fr2 a (by omega)) ⟨gU_same .., fun i i0 i1 => absurd i1 (by show ¬ i < 0; omega)⟩
    simp (disch := first | assumption | omega | (simp (disch := omega) only [gU_row, gU_same, gU_i, gCp_row] <;> omega)) only [e_X7_read, s_X7_read_0, s_X7_read_1, s_X7_read_4, s_X7_read_7, s_X7_read_8, s_X7_read_9, s_X7_read_12, s_X7_read_13, s_X7_read_16, s_X7_read_17, s_X7_read_20, s_X7_read_22, s_X7_read_23, s_X7_read_24, s_X7_read_25, s_X7_read_26, s_X7_read_27, s_X7_read_28, s_X7_read_30, s_X7_read_31, s_X7_read_34, s_X7_read_37, s_X7_read_40, s_X7_read_41, s_X7_read_42, s_X7_read_45, s_X7_read_48, s_X7_read_49, s_X7_read_50, s_X7_read_51, s_X7_read_54, s_X7_read_57, s_X7_read_58, s_X7_read_59, s_X7_read_62, s_X7_read_65, s_X7_read_66, s_X7_read_69, s_X7_read_72, s_X7_read_75, s_X7_read_78, s_X7_read_79, ↓reduceIte, Option.toList_some, Option.toList_none, List.cons_append, List.nil_append, List.singleton_append, List.append_nil, true_and, and_true, true_or, or_true, andT, iteT, iteF, itT, itF, zS_0, zP_0_0, zP_0_1, zP_0_2, zP_0_4, zP_0_5, zP_0_6, zS_188, isub_ok]
    exact fin
end READ
