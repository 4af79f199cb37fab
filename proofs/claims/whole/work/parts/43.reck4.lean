/-! A RECKONING: a ground. -/
def pRowT (b : Bk) (g j : Int) : Int := pRow b g j (b 3).1.toNat
def pDBT (b : Bk) (g e : Int) : Int := pDB b g e (b 3).1.toNat
def pShT (b : Bk) (g : Int) : Int := pSh b g (b 3).1.toNat
def pScanN (b : Bk) (g : Int) (n : Nat) : Int := it (fun j s => max s (pRowT b g j)) 0 n
def pScan (b : Bk) (g : Int) : Int := pScanN b g (b 1).1.toNat
def pDelN (b : Bk) (g : Int) (n : Nat) : Int := it (fun e s => s + pDBT b g e) 0 n
def pDel (b : Bk) (g : Int) : Int := pDelN b g 6
def pCh (b : Bk) (g : Int) : Int := (chO ((b 0).2 g 4) (pDBT b g) 5).2
def pPer (b : Bk) (g : Int) : Int := if pDel b g = 0 then 0 else 10 * pScan b g / ab (pDel b g)
def GroundOk (b : Bk) (g : Int) : Prop := (∀ j, 0 ≤ j → j < (b 1).1 → okI (pRowT b g j)) ∧ (∀ e, 0 ≤ e → e < 6 → okI (ab (pDBT b g e))) ∧ okI (ab (pDel b g)) ∧ okI (pShT b g) ∧ ChOk ((b 0).2 g 4) (pDBT b g) ∧ okI (10 * pScan b g)
def QC (m : gM) (r : Int) (b : Bk) (n : Nat) : Prop := QB m r b (b 3).1.toNat ∧ ∀ g, 0 ≤ g → g < (n : Int) → GroundOk b g ∧ m (r + 68) g = pScan b g ∧ m (r + 67) g = pDel b g ∧ m (r + 69) g = pCh b g ∧ m (r + 71) g = pPer b g
theorem pScanN_s {b : Bk} {g : Int} {n : Nat} : pScanN b g (n + 1) = max (pScanN b g n) (pRowT b g n) := rfl
theorem pDelN_s {b : Bk} {g : Int} {n : Nat} : pDelN b g (n + 1) = pDelN b g n + pDBT b g n := rfl
theorem gU_id {m : gM} {a i v : Int} (h : v = m a i) : gU m a i v = m := by
  funext a' i'
  unfold gU
  split
  · rename_i h'
    rw [h'.1, h'.2, h]
  · rfl
theorem QC_fr {m m' : gM} {r : Int} {b : Bk} {n : Nat} (h : QC m r b n) (hn : n ≤ 5) (h3 : (b 3).1 ≤ 24) (h1 : ∀ a, a ≠ r + 67 → a ≠ r + 68 → a ≠ r + 69 → a ≠ r + 71 → a ≠ r + 85 → a ≠ r + 86 → m' a = m a) (h2 : ∀ a i, (a = r + 67 ∨ a = r + 68 ∨ a = r + 69 ∨ a = r + 71) → i < (n : Int) → m' a i = m a i) : QC m' r b n := by
  obtain ⟨⟨q1, q2, q3, q4, q5, q6⟩, hg⟩ := h
  refine ⟨⟨fun g j g0 g1 j0 j1 => ?_, fun g e g0 g1 e0 e1 => ?_, fun g g0 g1 => ?_, fun l j l0 l1 j0 j1 => ?_, fun l l0 l1 => ?_, q6⟩, fun g g0 g1 => ?_⟩
  · rw [h1 _ (by omega) (by omega) (by omega) (by omega) (by omega) (by omega)]; exact q1 g j g0 g1 j0 j1
  · rw [h1 _ (by omega) (by omega) (by omega) (by omega) (by omega) (by omega)]; exact q2 g e g0 g1 e0 e1
  · rw [h1 _ (by omega) (by omega) (by omega) (by omega) (by omega) (by omega)]; exact q3 g g0 g1
  · rw [h1 _ (by omega) (by omega) (by omega) (by omega) (by omega) (by omega)]; exact q4 l j l0 l1 j0 j1
  · rw [h1 _ (by omega) (by omega) (by omega) (by omega) (by omega) (by omega)]; exact q5 l l0 l1
  · rw [h2 _ _ (Or.inr (Or.inl rfl)) g1, h2 _ _ (Or.inl rfl) g1, h2 _ _ (Or.inr (Or.inr (Or.inl rfl))) g1, h2 _ _ (Or.inr (Or.inr (Or.inr rfl))) g1]
    exact hg g g0 g1
theorem Ag_chIt {sp gap : Int} {s t : (Int → Int) × Int} (h : Ag s.1 t.1) (h2 : s.2 = t.2) (hg : 0 ≤ gap) : ∀ n : Nat, (n : Int) + gap ≤ 6 → Ag (it (chStep sp gap) s n).1 (it (chStep sp gap) t n).1 ∧ (it (chStep sp gap) s n).2 = (it (chStep sp gap) t n).2 := by
  intro n
  induction n with
  | zero => intro _; exact ⟨h, h2⟩
  | succ n ih =>
    intro hn
    obtain ⟨a1, a2⟩ := ih (by omega)
    refine ⟨Ag_px a1 (by omega) (by omega) (by omega) (by omega), ?_⟩
    show (it (chStep sp gap) s n).2 + td (pm (it (chStep sp gap) s n).1 n (n + gap) * sp * gap) 10 = (it (chStep sp gap) t n).2 + td (pm (it (chStep sp gap) t n).1 n (n + gap) * sp * gap) 10
    rw [a2, Ag_pm a1 (by omega) (by omega) (by omega) (by omega)]
theorem Ag_chO {sp : Int} {x y : Int → Int} (h : Ag x y) : ∀ k : Nat, k ≤ 5 → Ag (chO sp x k).1 (chO sp y k).1 ∧ (chO sp x k).2 = (chO sp y k).2 := by
  intro k
  induction k with
  | zero => intro _; exact ⟨h, rfl⟩
  | succ k ih =>
    intro hk
    obtain ⟨a1, a2⟩ := ih (by omega)
    exact Ag_chIt a1 a2 (by omega) _ (by omega)
theorem Ag_chA {sp : Int} {x y : Int → Int} (h : Ag x y) {k e : Nat} (hk : k ≤ 5) (he : e + k ≤ 5) : Ag (chA sp x k e).1 (chA sp y k e).1 ∧ (chA sp x k e).2 = (chA sp y k e).2 := by
  obtain ⟨a1, a2⟩ := Ag_chO (sp := sp) h k hk
  exact Ag_chIt a1 a2 (by omega) _ (by omega)
theorem Ag_ChOk {sp : Int} {x y : Int → Int} (h : Ag x y) (hc : ChOk sp y) : ChOk sp x := by
  refine ⟨fun k e h1 h2 => ?_, ?_⟩
  · have a := (Ag_chA (sp := sp) h (k := k) (e := e) (by omega) (by omega)).1
    have c := hc.1 k e h1 h2
    unfold chC at c ⊢
    rw [Ag_pm a (by omega) (by omega) (by omega) (by omega)]
    exact c
  · rw [(Ag_chO h 5 (by omega)).2]
    exact hc.2
theorem Ag_symm {x y : Int → Int} (h : Ag x y) : Ag y x := fun i i0 i1 => (h i i0 i1).symm
section RECK4
variable {L d N : Nat} {z X Y q r x y v t c g j k e s : Int} {w : gW} {m : gM} {K : Option gV → gW → gM → Prop} {b b' : Bk} {xs : Int → Int} {F Q : Prop} {n : Nat}
theorem pScanN_bd (h : ∀ j, 0 ≤ j → j < (n : Int) → okI (pRowT b g j)) : 0 ≤ pScanN b g n ∧ pScanN b g n ≤ 2147483647 := by
  induction n with
  | zero => simp [pScanN, it]
  | succ n ih =>
    have a := ih (fun j h0 h1 => h j h0 (by omega))
    have c := h n (by omega) (by omega)
    unfold okI at c
    rw [pScanN_s]
    omega
theorem pDelN_bd (h : ∀ e, 0 ≤ e → e < (n : Int) → -60000000000 ≤ pDBT b g e ∧ pDBT b g e ≤ 60000000000) : -(60000000000 * (n : Int)) ≤ pDelN b g n ∧ pDelN b g n ≤ 60000000000 * n := by
  induction n with
  | zero => simp [pDelN, it]
  | succ n ih =>
    have a := ih (fun j h0 h1 => h j h0 (by omega))
    have c := h n (by omega) (by omega)
    rw [pDelN_s]
    omega
set_option maxHeartbeats 1000000 in
theorem c_sumGround (hr : RB r) (hb : BK m (r + 1) b) (hg : WfG b) (hQ : WfQ b) (hn : n < 5) (hJ : J m r F (QC m r b n)) (hF : F → GroundOk b n) (hk : ∀ m', Fr (r + 56) (r + 86) m m' → (∀ a, r + 74 ≤ a → a ≤ r + 84 → m' a = m a) → J m' r F (QC m' r b (n + 1)) → K none (w0 L z X Y) m') : C (d + 3) M_X3_sumGround [(2, r), (0, n)] (w0 L z X Y) m K := by
  have hq := BB_r hr
  have hr0 : 1 ≤ r := by rcases hr with h | h <;> omega
  have b0 := BK_b0 hb
  have hs := BK_s1 hb
  have hs3 := BK_s3 hb
  simp (disch := first | assumption | omega | (simp (disch := omega) only [gU_row, gU_same, gU_i, gCp_row] <;> omega)) only [e_X3_sumGround, s_X3_sumGround_0, s_X3_sumGround_1, s_X3_sumGround_2, s_X3_sumGround_3, s_X3_sumGround_7, s_X3_sumGround_8, s_X3_sumGround_11, s_X3_sumGround_14, s_X3_sumGround_17, s_X3_sumGround_20, s_X3_sumGround_21, s_X3_sumGround_24, s_X3_sumGround_25, s_X3_sumGround_26, s_X3_sumGround_28, s_X3_sumGround_29, s_X3_sumGround_32, s_X3_sumGround_33, s_X3_sumGround_36, s_X3_sumGround_37, s_X3_sumGround_38, s_X3_sumGround_40, s_X3_sumGround_41, s_X3_sumGround_44, s_X3_sumGround_45, s_X3_sumGround_46, s_X3_sumGround_47, s_X3_sumGround_50, s_X3_sumGround_51, s_X3_sumGround_52, s_X3_sumGround_54, s_X3_sumGround_55, s_X3_sumGround_58, s_X3_sumGround_59, s_X3_sumGround_62, s_X3_sumGround_65, s_X3_sumGround_66, s_X3_sumGround_69, s_X3_sumGround_70, s_X3_sumGround_71, s_X3_sumGround_72, s_X3_sumGround_73, s_X3_sumGround_75, s_X3_sumGround_76, s_X3_sumGround_80, s_X3_sumGround_82, s_X3_sumGround_85, s_X3_sumGround_87, s_X3_sumGround_88, s_X3_sumGround_91, s_X3_sumGround_92, s_X3_sumGround_93, s_X3_sumGround_95, s_X3_sumGround_96, s_X3_sumGround_97, s_X3_sumGround_99, s_X3_sumGround_100, s_X3_sumGround_103, s_X3_sumGround_104, s_X3_sumGround_105, s_X3_sumGround_107, s_X3_sumGround_108, s_X3_sumGround_109, s_X3_sumGround_112, s_X3_sumGround_113, s_X3_sumGround_114, s_X3_sumGround_116, s_X3_sumGround_117, s_X3_sumGround_120, s_X3_sumGround_121, s_X3_sumGround_124, s_X3_sumGround_128, s_X3_sumGround_131, s_X3_sumGround_132, s_X3_sumGround_133, s_X3_sumGround_135, s_X3_sumGround_138, s_X3_sumGround_139, s_X3_sumGround_140, s_X3_sumGround_143, s_X3_sumGround_144, s_X3_sumGround_145, s_X3_sumGround_148, s_X3_sumGround_149, s_X3_sumGround_152, s_X3_sumGround_153, s_X3_sumGround_154, s_X3_sumGround_157, s_X3_sumGround_158, s_X3_sumGround_159, s_X3_sumGround_162, s_X3_sumGround_163, s_X3_sumGround_164, s_X3_sumGround_165, s_X3_sumGround_168, s_X3_sumGround_169, s_X3_sumGround_170, s_X3_sumGround_173, s_X3_sumGround_176, s_X3_sumGround_177, s_X3_sumGround_180, s_X3_sumGround_181, s_X3_sumGround_182, s_X3_sumGround_183, s_X3_sumGround_186, s_X3_sumGround_188, s_X3_sumGround_189, s_X3_sumGround_192, s_X3_sumGround_193, s_X3_sumGround_194, s_X3_sumGround_197, s_X3_sumGround_198, s_X3_sumGround_199, s_X3_sumGround_200, s_X3_sumGround_201, s_X3_sumGround_204, s_X3_sumGround_205, s_X3_sumGround_208, s_X3_sumGround_210, s_X3_sumGround_211, s_X3_sumGround_214, s_X3_sumGround_215, s_X3_sumGround_216, s_X3_sumGround_219, s_X3_sumGround_220, s_X3_sumGround_221, ↓reduceIte, Option.toList_some, Option.toList_none, List.cons_append, List.nil_append, List.singleton_append, List.append_nil, true_and, and_true, true_or, or_true, andT, iteT, iteF, itT, itF]
  refine R_for0 (b 1).1.toNat (fun k ls m' => (∃ s, ls = [(2, r), (0, (n : Int)), (1, s), (3, 0), (0, (k : Int)), (3, 0), (3, 0), (3, 0)] ∧ J m' r F (QC m' r b n ∧ s = pScanN b n k ∧ ∀ j, 0 ≤ j → j < (k : Int) → okI (pRowT b n j))) ∧ Fr (r + 56) (r + 86) m m' ∧ (∀ a, r + 74 ≤ a → a ≤ r + 84 → m' a = m a)) ⟨⟨_, rfl, J_mono hJ (fun h => ⟨h, rfl, fun j h0 h1 => absurd h1 (by omega)⟩)⟩, Fr_refl, fun _ _ _ => rfl⟩ ?_ ?_
  · rintro k ls m1 hk1 ⟨⟨s, rfl, j1⟩, f1, p1⟩ hn1
    have hb1 := BK_fr hb f1 (by omega)
    rw [s_X3_sumGround_5]
    simp (disch := first | assumption | omega | (simp (disch := omega) only [gU_row, gU_same, gU_i, gCp_row] <;> omega)) only [e_X3_sumGround, s_X3_sumGround_0, s_X3_sumGround_1, s_X3_sumGround_2, s_X3_sumGround_3, s_X3_sumGround_7, s_X3_sumGround_8, s_X3_sumGround_11, s_X3_sumGround_14, s_X3_sumGround_17, s_X3_sumGround_20, s_X3_sumGround_21, s_X3_sumGround_24, s_X3_sumGround_25, s_X3_sumGround_26, s_X3_sumGround_28, s_X3_sumGround_29, s_X3_sumGround_32, s_X3_sumGround_33, s_X3_sumGround_36, s_X3_sumGround_37, s_X3_sumGround_38, s_X3_sumGround_40, s_X3_sumGround_41, s_X3_sumGround_44, s_X3_sumGround_45, s_X3_sumGround_46, s_X3_sumGround_47, s_X3_sumGround_50, s_X3_sumGround_51, s_X3_sumGround_52, s_X3_sumGround_54, s_X3_sumGround_55, s_X3_sumGround_58, s_X3_sumGround_59, s_X3_sumGround_62, s_X3_sumGround_65, s_X3_sumGround_66, s_X3_sumGround_69, s_X3_sumGround_70, s_X3_sumGround_71, s_X3_sumGround_72, s_X3_sumGround_73, s_X3_sumGround_75, s_X3_sumGround_76, s_X3_sumGround_80, s_X3_sumGround_82, s_X3_sumGround_85, s_X3_sumGround_87, s_X3_sumGround_88, s_X3_sumGround_91, s_X3_sumGround_92, s_X3_sumGround_93, s_X3_sumGround_95, s_X3_sumGround_96, s_X3_sumGround_97, s_X3_sumGround_99, s_X3_sumGround_100, s_X3_sumGround_103, s_X3_sumGround_104, s_X3_sumGround_105, s_X3_sumGround_107, s_X3_sumGround_108, s_X3_sumGround_109, s_X3_sumGround_112, s_X3_sumGround_113, s_X3_sumGround_114, s_X3_sumGround_116, s_X3_sumGround_117, s_X3_sumGround_120, s_X3_sumGround_121, s_X3_sumGround_124, s_X3_sumGround_128, s_X3_sumGround_131, s_X3_sumGround_132, s_X3_sumGround_133, s_X3_sumGround_135, s_X3_sumGround_138, s_X3_sumGround_139, s_X3_sumGround_140, s_X3_sumGround_143, s_X3_sumGround_144, s_X3_sumGround_145, s_X3_sumGround_148, s_X3_sumGround_149, s_X3_sumGround_152, s_X3_sumGround_153, s_X3_sumGround_154, s_X3_sumGround_157, s_X3_sumGround_158, s_X3_sumGround_159, s_X3_sumGround_162, s_X3_sumGround_163, s_X3_sumGround_164, s_X3_sumGround_165, s_X3_sumGround_168, s_X3_sumGround_169, s_X3_sumGround_170, s_X3_sumGround_173, s_X3_sumGround_176, s_X3_sumGround_177, s_X3_sumGround_180, s_X3_sumGround_181, s_X3_sumGround_182, s_X3_sumGround_183, s_X3_sumGround_186, s_X3_sumGround_188, s_X3_sumGround_189, s_X3_sumGround_192, s_X3_sumGround_193, s_X3_sumGround_194, s_X3_sumGround_197, s_X3_sumGround_198, s_X3_sumGround_199, s_X3_sumGround_200, s_X3_sumGround_201, s_X3_sumGround_204, s_X3_sumGround_205, s_X3_sumGround_208, s_X3_sumGround_210, s_X3_sumGround_211, s_X3_sumGround_214, s_X3_sumGround_215, s_X3_sumGround_216, s_X3_sumGround_219, s_X3_sumGround_220, s_X3_sumGround_221, ↓reduceIte, Option.toList_some, Option.toList_none, List.cons_append, List.nil_append, List.singleton_append, List.append_nil, true_and, and_true, true_or, or_true, andT, iteT, iteF, itT, itF, zS_r0 hr, zP_r0_0 hr, zP_r0_1 hr, zP_r0_2 hr, zP_r0_3 hr, zP_r0_4 hr, zP_r0_5 hr, zP_r0_6 hr, zP_r0_7 hr, zP_r0_8 hr, zP_r0_9 hr, zP_r0_10 hr, zP_r0_11 hr, zP_r0_12 hr, zP_r0_13 hr, zP_r0_14 hr, zP_r0_15 hr, zS_r14 hr, zP_r14_1 hr, zP_r14_2 hr, zP_r14_3 hr, zP_r14_4 hr, zP_r14_6 hr, zP_r14_7 hr, zP_r14_8 hr, zP_r14_9 hr, zP_r14_10 hr, zP_r14_11 hr, zP_r14_12 hr, zP_r14_13 hr, zP_r14_14 hr, zP_r14_15 hr, zS_r15 hr, zS_r16 hr, zS_r17 hr, zS_r18 hr, zS_r19 hr, zS_r20 hr, zS_r21 hr, zS_r22 hr, zS_r23 hr, zS_r24 hr, zS_r25 hr, zS_r26 hr, zS_r27 hr, zS_r28 hr, zS_r29 hr, zS_r54 hr, zS_r55 hr, zS_r61 hr, zS_r67 hr, zS_r68 hr, zS_r69 hr, zS_r70 hr, zS_r71 hr, zS_r72 hr, zS_r73 hr, zS_r79 hr, zS_r85 hr, zS_r86 hr, zP_g_losses hr, zS_g_losses hr, zP_g_rows hr, zS_g_rows hr, zP_g_deltaBy hr, zS_g_deltaBy hr, zP_g_prices hr, zS_g_prices hr, zP_g_unrests hr, zS_g_unrests hr, zS_b0 hq, zP_b0_0 hq, zP_b0_1 hq, zP_b0_2 hq, zP_b0_3 hq, zP_b0_4 hq, zP_b0_5 hq, zS_b1 hq, zS_b3 hq, zS_b5 hq, zS_b7 hq, zS_b9 hq, zS_b11 hq, bk_n1 hb1, c_fit hr, fitm_row, gU_same, iadd_ok, imax_eq]
    have j2 := J_fit (x := m1 (r + 56 + n) k) j1 (fun ⟨hC, hs, h⟩ hf => by
      rw [hC.1.1 n k (by omega) (by omega) (by omega) (by omega)]
      exact (hF hf).1 k (by omega) (by omega))
    refine hn1 _ _ ⟨⟨_, rfl, J_gU (J_mono j2 (fun ⟨⟨hC, hs, h⟩, ho, he⟩ => ?_)) (by omega)⟩, fun a ha => by rw [gU_row (by omega), fitm_row (by omega), f1 a ha], fun a h0 h1 => by rw [gU_row (by omega), fitm_row (by omega), p1 a h0 h1]⟩
    rw [fitv_ok ho, he, gU_id rfl]
    have ev := hC.1.1 n k (by omega) (by omega) (by omega) (by omega)
    rw [ev] at ho ⊢
    refine ⟨hC, by rw [hs, pScanN_s]; rfl, fun j h0 h1 => ?_⟩
    by_cases hj : j = k
    · subst hj; exact ho
    · exact h j h0 (by omega)
  · rintro ls m1 ⟨⟨s, rfl, j1⟩, f1, p1⟩
    have hb1 := BK_fr hb f1 (by omega)
    rw [s_X3_sumGround_5]
    simp (disch := first | assumption | omega | (simp (disch := omega) only [gU_row, gU_same, gU_i, gCp_row] <;> omega)) only [e_X3_sumGround, s_X3_sumGround_0, s_X3_sumGround_1, s_X3_sumGround_2, s_X3_sumGround_3, s_X3_sumGround_7, s_X3_sumGround_8, s_X3_sumGround_11, s_X3_sumGround_14, s_X3_sumGround_17, s_X3_sumGround_20, s_X3_sumGround_21, s_X3_sumGround_24, s_X3_sumGround_25, s_X3_sumGround_26, s_X3_sumGround_28, s_X3_sumGround_29, s_X3_sumGround_32, s_X3_sumGround_33, s_X3_sumGround_36, s_X3_sumGround_37, s_X3_sumGround_38, s_X3_sumGround_40, s_X3_sumGround_41, s_X3_sumGround_44, s_X3_sumGround_45, s_X3_sumGround_46, s_X3_sumGround_47, s_X3_sumGround_50, s_X3_sumGround_51, s_X3_sumGround_52, s_X3_sumGround_54, s_X3_sumGround_55, s_X3_sumGround_58, s_X3_sumGround_59, s_X3_sumGround_62, s_X3_sumGround_65, s_X3_sumGround_66, s_X3_sumGround_69, s_X3_sumGround_70, s_X3_sumGround_71, s_X3_sumGround_72, s_X3_sumGround_73, s_X3_sumGround_75, s_X3_sumGround_76, s_X3_sumGround_80, s_X3_sumGround_82, s_X3_sumGround_85, s_X3_sumGround_87, s_X3_sumGround_88, s_X3_sumGround_91, s_X3_sumGround_92, s_X3_sumGround_93, s_X3_sumGround_95, s_X3_sumGround_96, s_X3_sumGround_97, s_X3_sumGround_99, s_X3_sumGround_100, s_X3_sumGround_103, s_X3_sumGround_104, s_X3_sumGround_105, s_X3_sumGround_107, s_X3_sumGround_108, s_X3_sumGround_109, s_X3_sumGround_112, s_X3_sumGround_113, s_X3_sumGround_114, s_X3_sumGround_116, s_X3_sumGround_117, s_X3_sumGround_120, s_X3_sumGround_121, s_X3_sumGround_124, s_X3_sumGround_128, s_X3_sumGround_131, s_X3_sumGround_132, s_X3_sumGround_133, s_X3_sumGround_135, s_X3_sumGround_138, s_X3_sumGround_139, s_X3_sumGround_140, s_X3_sumGround_143, s_X3_sumGround_144, s_X3_sumGround_145, s_X3_sumGround_148, s_X3_sumGround_149, s_X3_sumGround_152, s_X3_sumGround_153, s_X3_sumGround_154, s_X3_sumGround_157, s_X3_sumGround_158, s_X3_sumGround_159, s_X3_sumGround_162, s_X3_sumGround_163, s_X3_sumGround_164, s_X3_sumGround_165, s_X3_sumGround_168, s_X3_sumGround_169, s_X3_sumGround_170, s_X3_sumGround_173, s_X3_sumGround_176, s_X3_sumGround_177, s_X3_sumGround_180, s_X3_sumGround_181, s_X3_sumGround_182, s_X3_sumGround_183, s_X3_sumGround_186, s_X3_sumGround_188, s_X3_sumGround_189, s_X3_sumGround_192, s_X3_sumGround_193, s_X3_sumGround_194, s_X3_sumGround_197, s_X3_sumGround_198, s_X3_sumGround_199, s_X3_sumGround_200, s_X3_sumGround_201, s_X3_sumGround_204, s_X3_sumGround_205, s_X3_sumGround_208, s_X3_sumGround_210, s_X3_sumGround_211, s_X3_sumGround_214, s_X3_sumGround_215, s_X3_sumGround_216, s_X3_sumGround_219, s_X3_sumGround_220, s_X3_sumGround_221, ↓reduceIte, Option.toList_some, Option.toList_none, List.cons_append, List.nil_append, List.singleton_append, List.append_nil, true_and, and_true, true_or, or_true, andT, iteT, iteF, itT, itF, zS_r0 hr, zP_r0_0 hr, zP_r0_1 hr, zP_r0_2 hr, zP_r0_3 hr, zP_r0_4 hr, zP_r0_5 hr, zP_r0_6 hr, zP_r0_7 hr, zP_r0_8 hr, zP_r0_9 hr, zP_r0_10 hr, zP_r0_11 hr, zP_r0_12 hr, zP_r0_13 hr, zP_r0_14 hr, zP_r0_15 hr, zS_r14 hr, zP_r14_1 hr, zP_r14_2 hr, zP_r14_3 hr, zP_r14_4 hr, zP_r14_6 hr, zP_r14_7 hr, zP_r14_8 hr, zP_r14_9 hr, zP_r14_10 hr, zP_r14_11 hr, zP_r14_12 hr, zP_r14_13 hr, zP_r14_14 hr, zP_r14_15 hr, zS_r15 hr, zS_r16 hr, zS_r17 hr, zS_r18 hr, zS_r19 hr, zS_r20 hr, zS_r21 hr, zS_r22 hr, zS_r23 hr, zS_r24 hr, zS_r25 hr, zS_r26 hr, zS_r27 hr, zS_r28 hr, zS_r29 hr, zS_r54 hr, zS_r55 hr, zS_r61 hr, zS_r67 hr, zS_r68 hr, zS_r69 hr, zS_r70 hr, zS_r71 hr, zS_r72 hr, zS_r73 hr, zS_r79 hr, zS_r85 hr, zS_r86 hr, zP_g_losses hr, zS_g_losses hr, zP_g_rows hr, zS_g_rows hr, zP_g_deltaBy hr, zS_g_deltaBy hr, zP_g_prices hr, zS_g_prices hr, zP_g_unrests hr, zS_g_unrests hr, zS_b0 hq, zP_b0_0 hq, zP_b0_1 hq, zP_b0_2 hq, zP_b0_3 hq, zP_b0_4 hq, zP_b0_5 hq, zS_b1 hq, zS_b3 hq, zS_b5 hq, zS_b7 hq, zS_b9 hq, zS_b11 hq, bk_n1 hb1]
    have j1' : J (gU m1 (r + 68) n s) r F (QC (gU m1 (r + 68) n s) r b n ∧ (∀ j, 0 ≤ j → j < (b 1).1 → okI (pRowT b n j)) ∧ gU m1 (r + 68) n s (r + 68) n = pScan b n) := by
      refine J_gU (J_mono j1 (fun ⟨hC, hs', h⟩ => ⟨QC_fr hC (by omega) (by omega) (fun a h1 h2 _ _ _ _ => gU_row h2) (fun a i ha hi => ?_), fun j h0 h1 => h j h0 (by omega), by rw [gU_same, hs']; rfl⟩)) (by omega)
      exact gU_ne (fun _ h2 => by omega)
    have f1' : Fr (r + 56) (r + 86) m (gU m1 (r + 68) n s) := fun a ha => by rw [gU_row (by omega), f1 a ha]
    have p1' : ∀ a, r + 74 ≤ a → a ≤ r + 84 → gU m1 (r + 68) n s a = m a := fun a h0 h1 => by rw [gU_row (by omega), p1 a h0 h1]
    generalize gU m1 (r + 68) n s = m2 at *
    refine R_for0 6 (fun k ls m' => (∃ u, ls = [(2, r), (0, (n : Int)), (1, s), (3, 0), (1, u), (3, 0), (0, (k : Int)), (3, 0)] ∧ J m' r F (QC m' r b n ∧ (∀ j, 0 ≤ j → j < (b 1).1 → okI (pRowT b n j)) ∧ m' (r + 68) n = pScan b n ∧ u = pDelN b n k ∧ ∀ e, 0 ≤ e → e < (k : Int) → okI (ab (pDBT b n e)))) ∧ Fr (r + 56) (r + 86) m m' ∧ (∀ a, r + 74 ≤ a → a ≤ r + 84 → m' a = m a) ∧ ∀ e, 0 ≤ e → e < (k : Int) → -2147483648 ≤ m' (r + 62 + n) e ∧ m' (r + 62 + n) e ≤ 2147483648) ⟨⟨_, rfl, J_mono j1' (fun ⟨h1, h2, h3⟩ => ⟨h1, h2, h3, rfl, fun j h0 h1 => absurd h1 (by omega)⟩)⟩, f1', p1', fun j h0 h1 => absurd h1 (by omega)⟩ ?_ ?_
    · rintro k ls m3 hk3 ⟨⟨u, rfl, j3⟩, f3, p3, b3⟩ hn3
      rw [s_X3_sumGround_78]
      simp (disch := first | assumption | omega | (simp (disch := omega) only [gU_row, gU_same, gU_i, gCp_row] <;> omega)) only [e_X3_sumGround, s_X3_sumGround_0, s_X3_sumGround_1, s_X3_sumGround_2, s_X3_sumGround_3, s_X3_sumGround_7, s_X3_sumGround_8, s_X3_sumGround_11, s_X3_sumGround_14, s_X3_sumGround_17, s_X3_sumGround_20, s_X3_sumGround_21, s_X3_sumGround_24, s_X3_sumGround_25, s_X3_sumGround_26, s_X3_sumGround_28, s_X3_sumGround_29, s_X3_sumGround_32, s_X3_sumGround_33, s_X3_sumGround_36, s_X3_sumGround_37, s_X3_sumGround_38, s_X3_sumGround_40, s_X3_sumGround_41, s_X3_sumGround_44, s_X3_sumGround_45, s_X3_sumGround_46, s_X3_sumGround_47, s_X3_sumGround_50, s_X3_sumGround_51, s_X3_sumGround_52, s_X3_sumGround_54, s_X3_sumGround_55, s_X3_sumGround_58, s_X3_sumGround_59, s_X3_sumGround_62, s_X3_sumGround_65, s_X3_sumGround_66, s_X3_sumGround_69, s_X3_sumGround_70, s_X3_sumGround_71, s_X3_sumGround_72, s_X3_sumGround_73, s_X3_sumGround_75, s_X3_sumGround_76, s_X3_sumGround_80, s_X3_sumGround_82, s_X3_sumGround_85, s_X3_sumGround_87, s_X3_sumGround_88, s_X3_sumGround_91, s_X3_sumGround_92, s_X3_sumGround_93, s_X3_sumGround_95, s_X3_sumGround_96, s_X3_sumGround_97, s_X3_sumGround_99, s_X3_sumGround_100, s_X3_sumGround_103, s_X3_sumGround_104, s_X3_sumGround_105, s_X3_sumGround_107, s_X3_sumGround_108, s_X3_sumGround_109, s_X3_sumGround_112, s_X3_sumGround_113, s_X3_sumGround_114, s_X3_sumGround_116, s_X3_sumGround_117, s_X3_sumGround_120, s_X3_sumGround_121, s_X3_sumGround_124, s_X3_sumGround_128, s_X3_sumGround_131, s_X3_sumGround_132, s_X3_sumGround_133, s_X3_sumGround_135, s_X3_sumGround_138, s_X3_sumGround_139, s_X3_sumGround_140, s_X3_sumGround_143, s_X3_sumGround_144, s_X3_sumGround_145, s_X3_sumGround_148, s_X3_sumGround_149, s_X3_sumGround_152, s_X3_sumGround_153, s_X3_sumGround_154, s_X3_sumGround_157, s_X3_sumGround_158, s_X3_sumGround_159, s_X3_sumGround_162, s_X3_sumGround_163, s_X3_sumGround_164, s_X3_sumGround_165, s_X3_sumGround_168, s_X3_sumGround_169, s_X3_sumGround_170, s_X3_sumGround_173, s_X3_sumGround_176, s_X3_sumGround_177, s_X3_sumGround_180, s_X3_sumGround_181, s_X3_sumGround_182, s_X3_sumGround_183, s_X3_sumGround_186, s_X3_sumGround_188, s_X3_sumGround_189, s_X3_sumGround_192, s_X3_sumGround_193, s_X3_sumGround_194, s_X3_sumGround_197, s_X3_sumGround_198, s_X3_sumGround_199, s_X3_sumGround_200, s_X3_sumGround_201, s_X3_sumGround_204, s_X3_sumGround_205, s_X3_sumGround_208, s_X3_sumGround_210, s_X3_sumGround_211, s_X3_sumGround_214, s_X3_sumGround_215, s_X3_sumGround_216, s_X3_sumGround_219, s_X3_sumGround_220, s_X3_sumGround_221, ↓reduceIte, Option.toList_some, Option.toList_none, List.cons_append, List.nil_append, List.singleton_append, List.append_nil, true_and, and_true, true_or, or_true, andT, iteT, iteF, itT, itF, zS_r0 hr, zP_r0_0 hr, zP_r0_1 hr, zP_r0_2 hr, zP_r0_3 hr, zP_r0_4 hr, zP_r0_5 hr, zP_r0_6 hr, zP_r0_7 hr, zP_r0_8 hr, zP_r0_9 hr, zP_r0_10 hr, zP_r0_11 hr, zP_r0_12 hr, zP_r0_13 hr, zP_r0_14 hr, zP_r0_15 hr, zS_r14 hr, zP_r14_1 hr, zP_r14_2 hr, zP_r14_3 hr, zP_r14_4 hr, zP_r14_6 hr, zP_r14_7 hr, zP_r14_8 hr, zP_r14_9 hr, zP_r14_10 hr, zP_r14_11 hr, zP_r14_12 hr, zP_r14_13 hr, zP_r14_14 hr, zP_r14_15 hr, zS_r15 hr, zS_r16 hr, zS_r17 hr, zS_r18 hr, zS_r19 hr, zS_r20 hr, zS_r21 hr, zS_r22 hr, zS_r23 hr, zS_r24 hr, zS_r25 hr, zS_r26 hr, zS_r27 hr, zS_r28 hr, zS_r29 hr, zS_r54 hr, zS_r55 hr, zS_r61 hr, zS_r67 hr, zS_r68 hr, zS_r69 hr, zS_r70 hr, zS_r71 hr, zS_r72 hr, zS_r73 hr, zS_r79 hr, zS_r85 hr, zS_r86 hr, zP_g_losses hr, zS_g_losses hr, zP_g_rows hr, zS_g_rows hr, zP_g_deltaBy hr, zS_g_deltaBy hr, zP_g_prices hr, zS_g_prices hr, zP_g_unrests hr, zS_g_unrests hr, c_fitW hr, iadd_ok]
      have eD : ∀ hC : QC m3 r b n, m3 (r + 62 + n) k = pDBT b n k := fun hC => hC.1.2.1 n k (by omega) (by omega) (by omega) (by omega)
      have bD : ∀ hC : QC m3 r b n, ∀ e, -60000000000 ≤ pDBT b n e ∧ pDBT b n e ≤ 60000000000 := fun hC e => by
        have := pDB_bd (b := b) (g := n) (e := e) (b 3).1.toNat (fun l l0 l1 => (hC.1.2.2.2.2.2 l l0 l1).2.2.2)
        unfold pDBT
        omega
      have j4 := J_fit (x := fwa (m3 (r + 62 + n) k)) j3 (fun ⟨hC, h1, h2, h3, h4⟩ hf => by
        have := bD hC k
        rw [eD hC, fwa_ok (by omega) (by omega)]
        exact (hF hf).2.1 k (by omega) (by omega))
      refine hn3 _ _ ⟨⟨_, rfl, J_gU (J_mono j4 (fun ⟨⟨hC, h1, h2, h3, h4⟩, ho, he⟩ => ?_)) (by omega)⟩, fun a ha => by rw [gU_row (by omega), fitm_row (by omega), f3 a ha], fun a h0 h1 => by rw [gU_row (by omega), fitm_row (by omega), p3 a h0 h1], fun e e0 e1 => ?_⟩
      · have bk := bD hC k
        have bu := pDelN_bd (b := b) (g := n) (n := k) (fun e _ _ => bD hC e)
        rw [eD hC, fwa_ok (by omega) (by omega)] at ho
        have he' := he
        rw [he, eD hC, fw_ok (by omega) ho, gU_id (eD hC).symm]
        refine ⟨hC, h1, h2, by rw [h3, ladd_ok (by omega) (by omega)]; rfl, fun e e0 e1 => ?_⟩
        by_cases hj : e = k
        · subst hj; exact ho
        · exact h4 e e0 (by omega)
      · by_cases hj : e = k
        · subst hj
          rw [gU_same]
          exact fw_bd _
        · rw [gU_i (by omega), fitm_row (by omega)]
          exact b3 e e0 (by omega)
    · rintro ls m3 ⟨⟨u, rfl, j3⟩, f3, p3, b3⟩
      have hb3 := BK_fr hb f3 (by omega)
      rw [s_X3_sumGround_78]
      simp (disch := first | assumption | omega | (simp (disch := omega) only [gU_row, gU_same, gU_i, gCp_row] <;> omega)) only [e_X3_sumGround, s_X3_sumGround_0, s_X3_sumGround_1, s_X3_sumGround_2, s_X3_sumGround_3, s_X3_sumGround_7, s_X3_sumGround_8, s_X3_sumGround_11, s_X3_sumGround_14, s_X3_sumGround_17, s_X3_sumGround_20, s_X3_sumGround_21, s_X3_sumGround_24, s_X3_sumGround_25, s_X3_sumGround_26, s_X3_sumGround_28, s_X3_sumGround_29, s_X3_sumGround_32, s_X3_sumGround_33, s_X3_sumGround_36, s_X3_sumGround_37, s_X3_sumGround_38, s_X3_sumGround_40, s_X3_sumGround_41, s_X3_sumGround_44, s_X3_sumGround_45, s_X3_sumGround_46, s_X3_sumGround_47, s_X3_sumGround_50, s_X3_sumGround_51, s_X3_sumGround_52, s_X3_sumGround_54, s_X3_sumGround_55, s_X3_sumGround_58, s_X3_sumGround_59, s_X3_sumGround_62, s_X3_sumGround_65, s_X3_sumGround_66, s_X3_sumGround_69, s_X3_sumGround_70, s_X3_sumGround_71, s_X3_sumGround_72, s_X3_sumGround_73, s_X3_sumGround_75, s_X3_sumGround_76, s_X3_sumGround_80, s_X3_sumGround_82, s_X3_sumGround_85, s_X3_sumGround_87, s_X3_sumGround_88, s_X3_sumGround_91, s_X3_sumGround_92, s_X3_sumGround_93, s_X3_sumGround_95, s_X3_sumGround_96, s_X3_sumGround_97, s_X3_sumGround_99, s_X3_sumGround_100, s_X3_sumGround_103, s_X3_sumGround_104, s_X3_sumGround_105, s_X3_sumGround_107, s_X3_sumGround_108, s_X3_sumGround_109, s_X3_sumGround_112, s_X3_sumGround_113, s_X3_sumGround_114, s_X3_sumGround_116, s_X3_sumGround_117, s_X3_sumGround_120, s_X3_sumGround_121, s_X3_sumGround_124, s_X3_sumGround_128, s_X3_sumGround_131, s_X3_sumGround_132, s_X3_sumGround_133, s_X3_sumGround_135, s_X3_sumGround_138, s_X3_sumGround_139, s_X3_sumGround_140, s_X3_sumGround_143, s_X3_sumGround_144, s_X3_sumGround_145, s_X3_sumGround_148, s_X3_sumGround_149, s_X3_sumGround_152, s_X3_sumGround_153, s_X3_sumGround_154, s_X3_sumGround_157, s_X3_sumGround_158, s_X3_sumGround_159, s_X3_sumGround_162, s_X3_sumGround_163, s_X3_sumGround_164, s_X3_sumGround_165, s_X3_sumGround_168, s_X3_sumGround_169, s_X3_sumGround_170, s_X3_sumGround_173, s_X3_sumGround_176, s_X3_sumGround_177, s_X3_sumGround_180, s_X3_sumGround_181, s_X3_sumGround_182, s_X3_sumGround_183, s_X3_sumGround_186, s_X3_sumGround_188, s_X3_sumGround_189, s_X3_sumGround_192, s_X3_sumGround_193, s_X3_sumGround_194, s_X3_sumGround_197, s_X3_sumGround_198, s_X3_sumGround_199, s_X3_sumGround_200, s_X3_sumGround_201, s_X3_sumGround_204, s_X3_sumGround_205, s_X3_sumGround_208, s_X3_sumGround_210, s_X3_sumGround_211, s_X3_sumGround_214, s_X3_sumGround_215, s_X3_sumGround_216, s_X3_sumGround_219, s_X3_sumGround_220, s_X3_sumGround_221, ↓reduceIte, Option.toList_some, Option.toList_none, List.cons_append, List.nil_append, List.singleton_append, List.append_nil, true_and, and_true, true_or, or_true, andT, iteT, iteF, itT, itF, zS_r0 hr, zP_r0_0 hr, zP_r0_1 hr, zP_r0_2 hr, zP_r0_3 hr, zP_r0_4 hr, zP_r0_5 hr, zP_r0_6 hr, zP_r0_7 hr, zP_r0_8 hr, zP_r0_9 hr, zP_r0_10 hr, zP_r0_11 hr, zP_r0_12 hr, zP_r0_13 hr, zP_r0_14 hr, zP_r0_15 hr, zS_r14 hr, zP_r14_1 hr, zP_r14_2 hr, zP_r14_3 hr, zP_r14_4 hr, zP_r14_6 hr, zP_r14_7 hr, zP_r14_8 hr, zP_r14_9 hr, zP_r14_10 hr, zP_r14_11 hr, zP_r14_12 hr, zP_r14_13 hr, zP_r14_14 hr, zP_r14_15 hr, zS_r15 hr, zS_r16 hr, zS_r17 hr, zS_r18 hr, zS_r19 hr, zS_r20 hr, zS_r21 hr, zS_r22 hr, zS_r23 hr, zS_r24 hr, zS_r25 hr, zS_r26 hr, zS_r27 hr, zS_r28 hr, zS_r29 hr, zS_r54 hr, zS_r55 hr, zS_r61 hr, zS_r67 hr, zS_r68 hr, zS_r69 hr, zS_r70 hr, zS_r71 hr, zS_r72 hr, zS_r73 hr, zS_r79 hr, zS_r85 hr, zS_r86 hr]
      rw [s_X3_sumGround_127]
      simp (disch := first | assumption | omega | (simp (disch := omega) only [gU_row, gU_same, gU_i, gCp_row] <;> omega)) only [e_X3_sumGround, s_X3_sumGround_0, s_X3_sumGround_1, s_X3_sumGround_2, s_X3_sumGround_3, s_X3_sumGround_7, s_X3_sumGround_8, s_X3_sumGround_11, s_X3_sumGround_14, s_X3_sumGround_17, s_X3_sumGround_20, s_X3_sumGround_21, s_X3_sumGround_24, s_X3_sumGround_25, s_X3_sumGround_26, s_X3_sumGround_28, s_X3_sumGround_29, s_X3_sumGround_32, s_X3_sumGround_33, s_X3_sumGround_36, s_X3_sumGround_37, s_X3_sumGround_38, s_X3_sumGround_40, s_X3_sumGround_41, s_X3_sumGround_44, s_X3_sumGround_45, s_X3_sumGround_46, s_X3_sumGround_47, s_X3_sumGround_50, s_X3_sumGround_51, s_X3_sumGround_52, s_X3_sumGround_54, s_X3_sumGround_55, s_X3_sumGround_58, s_X3_sumGround_59, s_X3_sumGround_62, s_X3_sumGround_65, s_X3_sumGround_66, s_X3_sumGround_69, s_X3_sumGround_70, s_X3_sumGround_71, s_X3_sumGround_72, s_X3_sumGround_73, s_X3_sumGround_75, s_X3_sumGround_76, s_X3_sumGround_80, s_X3_sumGround_82, s_X3_sumGround_85, s_X3_sumGround_87, s_X3_sumGround_88, s_X3_sumGround_91, s_X3_sumGround_92, s_X3_sumGround_93, s_X3_sumGround_95, s_X3_sumGround_96, s_X3_sumGround_97, s_X3_sumGround_99, s_X3_sumGround_100, s_X3_sumGround_103, s_X3_sumGround_104, s_X3_sumGround_105, s_X3_sumGround_107, s_X3_sumGround_108, s_X3_sumGround_109, s_X3_sumGround_112, s_X3_sumGround_113, s_X3_sumGround_114, s_X3_sumGround_116, s_X3_sumGround_117, s_X3_sumGround_120, s_X3_sumGround_121, s_X3_sumGround_124, s_X3_sumGround_128, s_X3_sumGround_131, s_X3_sumGround_132, s_X3_sumGround_133, s_X3_sumGround_135, s_X3_sumGround_138, s_X3_sumGround_139, s_X3_sumGround_140, s_X3_sumGround_143, s_X3_sumGround_144, s_X3_sumGround_145, s_X3_sumGround_148, s_X3_sumGround_149, s_X3_sumGround_152, s_X3_sumGround_153, s_X3_sumGround_154, s_X3_sumGround_157, s_X3_sumGround_158, s_X3_sumGround_159, s_X3_sumGround_162, s_X3_sumGround_163, s_X3_sumGround_164, s_X3_sumGround_165, s_X3_sumGround_168, s_X3_sumGround_169, s_X3_sumGround_170, s_X3_sumGround_173, s_X3_sumGround_176, s_X3_sumGround_177, s_X3_sumGround_180, s_X3_sumGround_181, s_X3_sumGround_182, s_X3_sumGround_183, s_X3_sumGround_186, s_X3_sumGround_188, s_X3_sumGround_189, s_X3_sumGround_192, s_X3_sumGround_193, s_X3_sumGround_194, s_X3_sumGround_197, s_X3_sumGround_198, s_X3_sumGround_199, s_X3_sumGround_200, s_X3_sumGround_201, s_X3_sumGround_204, s_X3_sumGround_205, s_X3_sumGround_208, s_X3_sumGround_210, s_X3_sumGround_211, s_X3_sumGround_214, s_X3_sumGround_215, s_X3_sumGround_216, s_X3_sumGround_219, s_X3_sumGround_220, s_X3_sumGround_221, ↓reduceIte, Option.toList_some, Option.toList_none, List.cons_append, List.nil_append, List.singleton_append, List.append_nil, true_and, and_true, true_or, or_true, andT, iteT, iteF, itT, itF, zS_r0 hr, zP_r0_0 hr, zP_r0_1 hr, zP_r0_2 hr, zP_r0_3 hr, zP_r0_4 hr, zP_r0_5 hr, zP_r0_6 hr, zP_r0_7 hr, zP_r0_8 hr, zP_r0_9 hr, zP_r0_10 hr, zP_r0_11 hr, zP_r0_12 hr, zP_r0_13 hr, zP_r0_14 hr, zP_r0_15 hr, zS_r14 hr, zP_r14_1 hr, zP_r14_2 hr, zP_r14_3 hr, zP_r14_4 hr, zP_r14_6 hr, zP_r14_7 hr, zP_r14_8 hr, zP_r14_9 hr, zP_r14_10 hr, zP_r14_11 hr, zP_r14_12 hr, zP_r14_13 hr, zP_r14_14 hr, zP_r14_15 hr, zS_r15 hr, zS_r16 hr, zS_r17 hr, zS_r18 hr, zS_r19 hr, zS_r20 hr, zS_r21 hr, zS_r22 hr, zS_r23 hr, zS_r24 hr, zS_r25 hr, zS_r26 hr, zS_r27 hr, zS_r28 hr, zS_r29 hr, zS_r54 hr, zS_r55 hr, zS_r61 hr, zS_r67 hr, zS_r68 hr, zS_r69 hr, zS_r70 hr, zS_r71 hr, zS_r72 hr, zS_r73 hr, zS_r79 hr, zS_r85 hr, zS_r86 hr, zP_g_losses hr, zS_g_losses hr, zP_g_rows hr, zS_g_rows hr, zP_g_deltaBy hr, zS_g_deltaBy hr, zP_g_prices hr, zS_g_prices hr, zP_g_unrests hr, zS_g_unrests hr, c_fitW hr, c_fit hr, gU_row, fitm_row]
      have bD : ∀ hC : QC m3 r b n, ∀ e, -60000000000 ≤ pDBT b n e ∧ pDBT b n e ≤ 60000000000 := fun hC e => by
        have := pDB_bd (b := b) (g := n) (e := e) (b 3).1.toNat (fun l l0 l1 => (hC.1.2.2.2.2.2 l l0 l1).2.2.2)
        unfold pDBT
        omega
      have j4 := J_fit (x := fwa u) j3 (fun ⟨hC, h1, h2, h3, h4⟩ hf => by
        have bu := pDelN_bd (b := b) (g := n) (n := 6) (fun e _ _ => bD hC e)
        rw [h3, fwa_ok (by omega) (by omega)]
        exact (hF hf).2.2.1)
      have j5 := J_gU (a := r + 67) (i := n) (v := fw u) j4 (by omega)
      have j6 := J_fit (x := m3 (r + 70) n) j5 (fun ⟨⟨hC, h1, h2, h3, h4⟩, ho, he⟩ hf => by
        rw [hC.1.2.2.1 n (by omega) (by omega)]
        exact (hF hf).2.2.2.1)
      have j7 := J_gU (a := r + 70) (i := n) (v := fitv (m3 (r + 70) n)) j6 (by omega)
      have hb4 : BK (gU (fitm (gU (fitm m3 (r + 86) (fwa u)) (r + 67) n (fw u)) (r + 86) (m3 (r + 70) n)) (r + 70) n (fitv (m3 (r + 70) n))) (r + 1) b := BK_gU (BK_fitm (BK_gU (BK_fitm hb3 (by omega)) (by omega)) (by omega)) (by omega)
      have hrow : ∀ a, a ≠ r + 86 → a ≠ r + 67 → a ≠ r + 70 → gU (fitm (gU (fitm m3 (r + 86) (fwa u)) (r + 67) n (fw u)) (r + 86) (m3 (r + 70) n)) (r + 70) n (fitv (m3 (r + 70) n)) a = m3 a := fun a h1 h2 h3 => by rw [gU_row h3, fitm_row h1, gU_row h2, fitm_row h1]
      have h67 : gU (fitm (gU (fitm m3 (r + 86) (fwa u)) (r + 67) n (fw u)) (r + 86) (m3 (r + 70) n)) (r + 70) n (fitv (m3 (r + 70) n)) (r + 67) = gU m3 (r + 67) n (fw u) (r + 67) := by rw [gU_row (by omega), fitm_row (by omega), gU_rw, gU_rw, fitm_row (by omega)]
      have h70 : gU (fitm (gU (fitm m3 (r + 86) (fwa u)) (r + 67) n (fw u)) (r + 86) (m3 (r + 70) n)) (r + 70) n (fitv (m3 (r + 70) n)) (r + 70) = gU m3 (r + 70) n (fitv (m3 (r + 70) n)) (r + 70) := by rw [gU_rw, gU_rw, fitm_row (by omega), gU_row (by omega), fitm_row (by omega)]
      generalize gU (fitm (gU (fitm m3 (r + 86) (fwa u)) (r + 67) n (fw u)) (r + 86) (m3 (r + 70) n)) (r + 70) n (fitv (m3 (r + 70) n)) = m4 at *
      have hD : m4 (r + 62 + n) = m3 (r + 62 + n) := hrow _ (by omega) (by omega) (by omega)
      have agD : QC m3 r b n → Ag (m4 (r + 62 + n)) (pDBT b n) := fun hC e e0 e1 => by rw [hD]; exact hC.1.2.1 n e (by omega) (by omega) e0 e1
      refine c_charges hr hb4 hg (by omega) (by omega) (fun e e0 e1 => by rw [hD]; have := b3 e e0 (by omega); omega) j7 (fun ⟨⟨⟨hC, h1, h2, h3, h4⟩, ho, he⟩, ho2, he2⟩ hf => Ag_ChOk (agD hC) (hF hf).2.2.2.2.1) (fun v m5 f5 v0 v1 j8 => ?_)
      simp (disch := first | assumption | omega | (simp (disch := omega) only [gU_row, gU_same, gU_i, gCp_row] <;> omega)) only [e_X3_sumGround, s_X3_sumGround_0, s_X3_sumGround_1, s_X3_sumGround_2, s_X3_sumGround_3, s_X3_sumGround_7, s_X3_sumGround_8, s_X3_sumGround_11, s_X3_sumGround_14, s_X3_sumGround_17, s_X3_sumGround_20, s_X3_sumGround_21, s_X3_sumGround_24, s_X3_sumGround_25, s_X3_sumGround_26, s_X3_sumGround_28, s_X3_sumGround_29, s_X3_sumGround_32, s_X3_sumGround_33, s_X3_sumGround_36, s_X3_sumGround_37, s_X3_sumGround_38, s_X3_sumGround_40, s_X3_sumGround_41, s_X3_sumGround_44, s_X3_sumGround_45, s_X3_sumGround_46, s_X3_sumGround_47, s_X3_sumGround_50, s_X3_sumGround_51, s_X3_sumGround_52, s_X3_sumGround_54, s_X3_sumGround_55, s_X3_sumGround_58, s_X3_sumGround_59, s_X3_sumGround_62, s_X3_sumGround_65, s_X3_sumGround_66, s_X3_sumGround_69, s_X3_sumGround_70, s_X3_sumGround_71, s_X3_sumGround_72, s_X3_sumGround_73, s_X3_sumGround_75, s_X3_sumGround_76, s_X3_sumGround_80, s_X3_sumGround_82, s_X3_sumGround_85, s_X3_sumGround_87, s_X3_sumGround_88, s_X3_sumGround_91, s_X3_sumGround_92, s_X3_sumGround_93, s_X3_sumGround_95, s_X3_sumGround_96, s_X3_sumGround_97, s_X3_sumGround_99, s_X3_sumGround_100, s_X3_sumGround_103, s_X3_sumGround_104, s_X3_sumGround_105, s_X3_sumGround_107, s_X3_sumGround_108, s_X3_sumGround_109, s_X3_sumGround_112, s_X3_sumGround_113, s_X3_sumGround_114, s_X3_sumGround_116, s_X3_sumGround_117, s_X3_sumGround_120, s_X3_sumGround_121, s_X3_sumGround_124, s_X3_sumGround_128, s_X3_sumGround_131, s_X3_sumGround_132, s_X3_sumGround_133, s_X3_sumGround_135, s_X3_sumGround_138, s_X3_sumGround_139, s_X3_sumGround_140, s_X3_sumGround_143, s_X3_sumGround_144, s_X3_sumGround_145, s_X3_sumGround_148, s_X3_sumGround_149, s_X3_sumGround_152, s_X3_sumGround_153, s_X3_sumGround_154, s_X3_sumGround_157, s_X3_sumGround_158, s_X3_sumGround_159, s_X3_sumGround_162, s_X3_sumGround_163, s_X3_sumGround_164, s_X3_sumGround_165, s_X3_sumGround_168, s_X3_sumGround_169, s_X3_sumGround_170, s_X3_sumGround_173, s_X3_sumGround_176, s_X3_sumGround_177, s_X3_sumGround_180, s_X3_sumGround_181, s_X3_sumGround_182, s_X3_sumGround_183, s_X3_sumGround_186, s_X3_sumGround_188, s_X3_sumGround_189, s_X3_sumGround_192, s_X3_sumGround_193, s_X3_sumGround_194, s_X3_sumGround_197, s_X3_sumGround_198, s_X3_sumGround_199, s_X3_sumGround_200, s_X3_sumGround_201, s_X3_sumGround_204, s_X3_sumGround_205, s_X3_sumGround_208, s_X3_sumGround_210, s_X3_sumGround_211, s_X3_sumGround_214, s_X3_sumGround_215, s_X3_sumGround_216, s_X3_sumGround_219, s_X3_sumGround_220, s_X3_sumGround_221, ↓reduceIte, Option.toList_some, Option.toList_none, List.cons_append, List.nil_append, List.singleton_append, List.append_nil, true_and, and_true, true_or, or_true, andT, iteT, iteF, itT, itF, zS_r0 hr, zP_r0_0 hr, zP_r0_1 hr, zP_r0_2 hr, zP_r0_3 hr, zP_r0_4 hr, zP_r0_5 hr, zP_r0_6 hr, zP_r0_7 hr, zP_r0_8 hr, zP_r0_9 hr, zP_r0_10 hr, zP_r0_11 hr, zP_r0_12 hr, zP_r0_13 hr, zP_r0_14 hr, zP_r0_15 hr, zS_r14 hr, zP_r14_1 hr, zP_r14_2 hr, zP_r14_3 hr, zP_r14_4 hr, zP_r14_6 hr, zP_r14_7 hr, zP_r14_8 hr, zP_r14_9 hr, zP_r14_10 hr, zP_r14_11 hr, zP_r14_12 hr, zP_r14_13 hr, zP_r14_14 hr, zP_r14_15 hr, zS_r15 hr, zS_r16 hr, zS_r17 hr, zS_r18 hr, zS_r19 hr, zS_r20 hr, zS_r21 hr, zS_r22 hr, zS_r23 hr, zS_r24 hr, zS_r25 hr, zS_r26 hr, zS_r27 hr, zS_r28 hr, zS_r29 hr, zS_r54 hr, zS_r55 hr, zS_r61 hr, zS_r67 hr, zS_r68 hr, zS_r69 hr, zS_r70 hr, zS_r71 hr, zS_r72 hr, zS_r73 hr, zS_r79 hr, zS_r85 hr, zS_r86 hr, zP_g_losses hr, zS_g_losses hr, zP_g_rows hr, zS_g_rows hr, zP_g_deltaBy hr, zS_g_deltaBy hr, zP_g_prices hr, zS_g_prices hr, zP_g_unrests hr, zS_g_unrests hr, c_fit hr, gU_row, fitm_row]
      have e5 : ∀ a, a ≠ r + 85 → a ≠ r + 86 → m5 a = m4 a := fun a h1 h2 => f5 a (by omega)
      have e67 : m5 (r + 67) n = fw u := by rw [e5 _ (by omega) (by omega), h67, gU_same]
      have e68 : m5 (r + 68) n = m3 (r + 68) n := by rw [e5 _ (by omega) (by omega), hrow _ (by omega) (by omega) (by omega)]
      rw [e67, e68]
      have fu := fw_bd u
      generalize hx : lmul 10 (m3 (r + 68) n) = x
      have j9 := J_gU (a := r + 69) (i := n) (v := v) j8 (by omega)
      have j10 := J_fit (x := x) j9 (fun ⟨⟨⟨⟨hC, h1, h2, h3, h4⟩, ho, he⟩, ho2, he2⟩, hch, hv⟩ hf => by
        have sb := pScanN_bd (b := b) (g := n) (n := (b 1).1.toNat) (fun j h0 h1' => h1 j h0 (by omega))
        have : m3 (r + 68) n = pScanN b n (b 1).1.toNat := h2
        rw [← hx, this, lmul_ok (by omega) (by omega)]
        exact (hF hf).2.2.2.2.2)
      have fin : ∀ pv, (QC m3 r b n → u = pDelN b n 6 → m3 (r + 68) n = pScan b n → okI (ab (pDel b n)) → okI (10 * pScan b n) → (∀ j, 0 ≤ j → j < (b 1).1 → okI (pRowT b n j)) → pv = pPer b n) → K none (w0 L z X Y) (gU (fitm (gU m5 (r + 69) n v) (r + 86) x) (r + 71) n pv) := by
        intro pv hpv
        refine hk _ (fun a ha => ?_) (fun a h0 h1 => ?_) (J_gU (J_mono j10 (fun ⟨⟨⟨⟨⟨hC, h1, h2, h3, h4⟩, ho, he⟩, ho2, he2⟩, hch, hv⟩, ho3, he3⟩ => ?_)) (by omega))
        · rw [gU_row (by omega), fitm_row (by omega), gU_row (by omega), e5 _ (by omega) (by omega), hrow _ (by omega) (by omega) (by omega), f3 _ (by omega)]
        · rw [gU_row (by omega), fitm_row (by omega), gU_row (by omega), e5 _ (by omega) (by omega), hrow _ (by omega) (by omega) (by omega), p3 _ (by omega) (by omega)]
        · have bu := pDelN_bd (b := b) (g := n) (n := 6) (fun e _ _ => bD hC e)
          have sb := pScanN_bd (b := b) (g := n) (n := (b 1).1.toNat) (fun j h0 h1' => h1 j h0 (by omega))
          have hs2 : m3 (r + 68) n = pScanN b n (b 1).1.toNat := h2
          have okd : okI (ab (pDel b n)) := by
            rw [h3, fwa_ok (by omega) (by omega)] at ho
            exact ho
          have okx : okI (10 * pScan b n) := by
            rw [← hx, hs2, lmul_ok (by omega) (by omega)] at ho3
            exact ho3
          have eu : fw u = pDel b n := by
            rw [h3]
            exact fw_ok (by omega) okd
          have oks : okI (pShT b n) := by
            have := hC.1.2.2.1 n (by omega) (by omega)
            rw [this] at ho2
            exact ho2
          have es : m4 (r + 70) = m3 (r + 70) := by
            rw [h70, fitv_ok ho2, gU_id rfl]
          have er : ∀ a, a ≠ r + 85 → a ≠ r + 86 → a ≠ r + 67 → a ≠ r + 69 → a ≠ r + 71 → gU (fitm (gU m5 (r + 69) n v) (r + 86) x) (r + 71) n pv a = m3 a := by
            intro a a1 a2 a3 a4 a5
            rw [gU_row a5, fitm_row a2, gU_row a4, e5 a a1 a2]
            by_cases ha : a = r + 70
            · rw [ha, es]
            · exact hrow a a2 a3 ha
          have er67 : gU (fitm (gU m5 (r + 69) n v) (r + 86) x) (r + 71) n pv (r + 67) = gU m3 (r + 67) n (pDel b n) (r + 67) := by
            rw [gU_row (by omega), fitm_row (by omega), gU_row (by omega), e5 _ (by omega) (by omega), h67, eu]
          have er69 : gU (fitm (gU m5 (r + 69) n v) (r + 86) x) (r + 71) n pv (r + 69) = gU m3 (r + 69) n v (r + 69) := by
            rw [gU_row (by omega), fitm_row (by omega), gU_rw, gU_rw, e5 _ (by omega) (by omega), hrow _ (by omega) (by omega) (by omega)]
          have er71 : gU (fitm (gU m5 (r + 69) n v) (r + 86) x) (r + 71) n pv (r + 71) = gU m3 (r + 71) n pv (r + 71) := by
            rw [gU_rw, gU_rw, fitm_row (by omega), gU_row (by omega), e5 _ (by omega) (by omega), hrow _ (by omega) (by omega) (by omega)]
          have hC2 : QC (gU (fitm (gU m5 (r + 69) n v) (r + 86) x) (r + 71) n pv) r b n := by
            refine QC_fr hC (by omega) (by omega) (fun a a1 a2 a3 a4 a5 a6 => er a a5 a6 a1 a3 a4) (fun a i ha hi => ?_)
            rcases ha with rfl | rfl | rfl | rfl
            · rw [er67, gU_i (by omega)]
            · rw [er _ (by omega) (by omega) (by omega) (by omega) (by omega)]
            · rw [er69, gU_i (by omega)]
            · rw [er71, gU_i (by omega)]
          refine ⟨hC2.1, fun g g0 g1 => ?_⟩
          by_cases hgn : g = n
          · subst hgn
            refine ⟨⟨h1, fun e e0 e1 => h4 e e0 (by omega), okd, oks, Ag_ChOk (Ag_symm (agD hC)) hch, okx⟩, ?_, ?_, ?_, ?_⟩
            · rw [er _ (by omega) (by omega) (by omega) (by omega) (by omega), h2]
            · rw [er67, gU_same]
            · rw [er69, gU_same, hv, (Ag_chO (agD hC) 5 (by omega)).2]
              rfl
            · rw [er71, gU_same]
              exact hpv hC h3 h2 okd okx h1
          · exact hC2.2 g g0 (by omega)
      by_cases hu : fw u = 0
      · simp (disch := first | assumption | omega | (simp (disch := omega) only [gU_row, gU_same, gU_i, gCp_row] <;> omega)) only [e_X3_sumGround, s_X3_sumGround_0, s_X3_sumGround_1, s_X3_sumGround_2, s_X3_sumGround_3, s_X3_sumGround_7, s_X3_sumGround_8, s_X3_sumGround_11, s_X3_sumGround_14, s_X3_sumGround_17, s_X3_sumGround_20, s_X3_sumGround_21, s_X3_sumGround_24, s_X3_sumGround_25, s_X3_sumGround_26, s_X3_sumGround_28, s_X3_sumGround_29, s_X3_sumGround_32, s_X3_sumGround_33, s_X3_sumGround_36, s_X3_sumGround_37, s_X3_sumGround_38, s_X3_sumGround_40, s_X3_sumGround_41, s_X3_sumGround_44, s_X3_sumGround_45, s_X3_sumGround_46, s_X3_sumGround_47, s_X3_sumGround_50, s_X3_sumGround_51, s_X3_sumGround_52, s_X3_sumGround_54, s_X3_sumGround_55, s_X3_sumGround_58, s_X3_sumGround_59, s_X3_sumGround_62, s_X3_sumGround_65, s_X3_sumGround_66, s_X3_sumGround_69, s_X3_sumGround_70, s_X3_sumGround_71, s_X3_sumGround_72, s_X3_sumGround_73, s_X3_sumGround_75, s_X3_sumGround_76, s_X3_sumGround_80, s_X3_sumGround_82, s_X3_sumGround_85, s_X3_sumGround_87, s_X3_sumGround_88, s_X3_sumGround_91, s_X3_sumGround_92, s_X3_sumGround_93, s_X3_sumGround_95, s_X3_sumGround_96, s_X3_sumGround_97, s_X3_sumGround_99, s_X3_sumGround_100, s_X3_sumGround_103, s_X3_sumGround_104, s_X3_sumGround_105, s_X3_sumGround_107, s_X3_sumGround_108, s_X3_sumGround_109, s_X3_sumGround_112, s_X3_sumGround_113, s_X3_sumGround_114, s_X3_sumGround_116, s_X3_sumGround_117, s_X3_sumGround_120, s_X3_sumGround_121, s_X3_sumGround_124, s_X3_sumGround_128, s_X3_sumGround_131, s_X3_sumGround_132, s_X3_sumGround_133, s_X3_sumGround_135, s_X3_sumGround_138, s_X3_sumGround_139, s_X3_sumGround_140, s_X3_sumGround_143, s_X3_sumGround_144, s_X3_sumGround_145, s_X3_sumGround_148, s_X3_sumGround_149, s_X3_sumGround_152, s_X3_sumGround_153, s_X3_sumGround_154, s_X3_sumGround_157, s_X3_sumGround_158, s_X3_sumGround_159, s_X3_sumGround_162, s_X3_sumGround_163, s_X3_sumGround_164, s_X3_sumGround_165, s_X3_sumGround_168, s_X3_sumGround_169, s_X3_sumGround_170, s_X3_sumGround_173, s_X3_sumGround_176, s_X3_sumGround_177, s_X3_sumGround_180, s_X3_sumGround_181, s_X3_sumGround_182, s_X3_sumGround_183, s_X3_sumGround_186, s_X3_sumGround_188, s_X3_sumGround_189, s_X3_sumGround_192, s_X3_sumGround_193, s_X3_sumGround_194, s_X3_sumGround_197, s_X3_sumGround_198, s_X3_sumGround_199, s_X3_sumGround_200, s_X3_sumGround_201, s_X3_sumGround_204, s_X3_sumGround_205, s_X3_sumGround_208, s_X3_sumGround_210, s_X3_sumGround_211, s_X3_sumGround_214, s_X3_sumGround_215, s_X3_sumGround_216, s_X3_sumGround_219, s_X3_sumGround_220, s_X3_sumGround_221, ↓reduceIte, Option.toList_some, Option.toList_none, List.cons_append, List.nil_append, List.singleton_append, List.append_nil, true_and, and_true, true_or, or_true, andT, iteT, iteF, itT, itF, zS_r0 hr, zP_r0_0 hr, zP_r0_1 hr, zP_r0_2 hr, zP_r0_3 hr, zP_r0_4 hr, zP_r0_5 hr, zP_r0_6 hr, zP_r0_7 hr, zP_r0_8 hr, zP_r0_9 hr, zP_r0_10 hr, zP_r0_11 hr, zP_r0_12 hr, zP_r0_13 hr, zP_r0_14 hr, zP_r0_15 hr, zS_r14 hr, zP_r14_1 hr, zP_r14_2 hr, zP_r14_3 hr, zP_r14_4 hr, zP_r14_6 hr, zP_r14_7 hr, zP_r14_8 hr, zP_r14_9 hr, zP_r14_10 hr, zP_r14_11 hr, zP_r14_12 hr, zP_r14_13 hr, zP_r14_14 hr, zP_r14_15 hr, zS_r15 hr, zS_r16 hr, zS_r17 hr, zS_r18 hr, zS_r19 hr, zS_r20 hr, zS_r21 hr, zS_r22 hr, zS_r23 hr, zS_r24 hr, zS_r25 hr, zS_r26 hr, zS_r27 hr, zS_r28 hr, zS_r29 hr, zS_r54 hr, zS_r55 hr, zS_r61 hr, zS_r67 hr, zS_r68 hr, zS_r69 hr, zS_r70 hr, zS_r71 hr, zS_r72 hr, zS_r73 hr, zS_r79 hr, zS_r85 hr, zS_r86 hr, zP_g_losses hr, zS_g_losses hr, zP_g_rows hr, zS_g_rows hr, zP_g_deltaBy hr, zS_g_deltaBy hr, zP_g_prices hr, zS_g_prices hr, zP_g_unrests hr, zS_g_unrests hr, lcmp_eq, ne_eq, not_true_eq_false]
        refine fin 0 (fun hC hu2 _ okd _ _ => ?_)
        have bu := pDelN_bd (b := b) (g := n) (n := 6) (fun e _ _ => bD hC e)
        have : pDel b n = 0 := by
          have pd : pDel b n = pDelN b n 6 := rfl
          rw [← hu, hu2]
          exact (fw_ok (by omega) okd).symm
        unfold pPer
        rw [if_pos this]
      · have hab : labs (fw u) = ab (fw u) := labs_ok (by omega) (by omega)
        have hab2 : 0 < ab (fw u) := by unfold ab; split <;> omega
        have hab3 : ab (fw u) ≤ 2147483648 := by unfold ab; split <;> omega
        have fx := fitv_bd x
        simp (disch := first | assumption | omega | (simp (disch := omega) only [gU_row, gU_same, gU_i, gCp_row] <;> omega)) only [e_X3_sumGround, s_X3_sumGround_0, s_X3_sumGround_1, s_X3_sumGround_2, s_X3_sumGround_3, s_X3_sumGround_7, s_X3_sumGround_8, s_X3_sumGround_11, s_X3_sumGround_14, s_X3_sumGround_17, s_X3_sumGround_20, s_X3_sumGround_21, s_X3_sumGround_24, s_X3_sumGround_25, s_X3_sumGround_26, s_X3_sumGround_28, s_X3_sumGround_29, s_X3_sumGround_32, s_X3_sumGround_33, s_X3_sumGround_36, s_X3_sumGround_37, s_X3_sumGround_38, s_X3_sumGround_40, s_X3_sumGround_41, s_X3_sumGround_44, s_X3_sumGround_45, s_X3_sumGround_46, s_X3_sumGround_47, s_X3_sumGround_50, s_X3_sumGround_51, s_X3_sumGround_52, s_X3_sumGround_54, s_X3_sumGround_55, s_X3_sumGround_58, s_X3_sumGround_59, s_X3_sumGround_62, s_X3_sumGround_65, s_X3_sumGround_66, s_X3_sumGround_69, s_X3_sumGround_70, s_X3_sumGround_71, s_X3_sumGround_72, s_X3_sumGround_73, s_X3_sumGround_75, s_X3_sumGround_76, s_X3_sumGround_80, s_X3_sumGround_82, s_X3_sumGround_85, s_X3_sumGround_87, s_X3_sumGround_88, s_X3_sumGround_91, s_X3_sumGround_92, s_X3_sumGround_93, s_X3_sumGround_95, s_X3_sumGround_96, s_X3_sumGround_97, s_X3_sumGround_99, s_X3_sumGround_100, s_X3_sumGround_103, s_X3_sumGround_104, s_X3_sumGround_105, s_X3_sumGround_107, s_X3_sumGround_108, s_X3_sumGround_109, s_X3_sumGround_112, s_X3_sumGround_113, s_X3_sumGround_114, s_X3_sumGround_116, s_X3_sumGround_117, s_X3_sumGround_120, s_X3_sumGround_121, s_X3_sumGround_124, s_X3_sumGround_128, s_X3_sumGround_131, s_X3_sumGround_132, s_X3_sumGround_133, s_X3_sumGround_135, s_X3_sumGround_138, s_X3_sumGround_139, s_X3_sumGround_140, s_X3_sumGround_143, s_X3_sumGround_144, s_X3_sumGround_145, s_X3_sumGround_148, s_X3_sumGround_149, s_X3_sumGround_152, s_X3_sumGround_153, s_X3_sumGround_154, s_X3_sumGround_157, s_X3_sumGround_158, s_X3_sumGround_159, s_X3_sumGround_162, s_X3_sumGround_163, s_X3_sumGround_164, s_X3_sumGround_165, s_X3_sumGround_168, s_X3_sumGround_169, s_X3_sumGround_170, s_X3_sumGround_173, s_X3_sumGround_176, s_X3_sumGround_177, s_X3_sumGround_180, s_X3_sumGround_181, s_X3_sumGround_182, s_X3_sumGround_183, s_X3_sumGround_186, s_X3_sumGround_188, s_X3_sumGround_189, s_X3_sumGround_192, s_X3_sumGround_193, s_X3_sumGround_194, s_X3_sumGround_197, s_X3_sumGround_198, s_X3_sumGround_199, s_X3_sumGround_200, s_X3_sumGround_201, s_X3_sumGround_204, s_X3_sumGround_205, s_X3_sumGround_208, s_X3_sumGround_210, s_X3_sumGround_211, s_X3_sumGround_214, s_X3_sumGround_215, s_X3_sumGround_216, s_X3_sumGround_219, s_X3_sumGround_220, s_X3_sumGround_221, ↓reduceIte, Option.toList_some, Option.toList_none, List.cons_append, List.nil_append, List.singleton_append, List.append_nil, true_and, and_true, true_or, or_true, andT, iteT, iteF, itT, itF, zS_r0 hr, zP_r0_0 hr, zP_r0_1 hr, zP_r0_2 hr, zP_r0_3 hr, zP_r0_4 hr, zP_r0_5 hr, zP_r0_6 hr, zP_r0_7 hr, zP_r0_8 hr, zP_r0_9 hr, zP_r0_10 hr, zP_r0_11 hr, zP_r0_12 hr, zP_r0_13 hr, zP_r0_14 hr, zP_r0_15 hr, zS_r14 hr, zP_r14_1 hr, zP_r14_2 hr, zP_r14_3 hr, zP_r14_4 hr, zP_r14_6 hr, zP_r14_7 hr, zP_r14_8 hr, zP_r14_9 hr, zP_r14_10 hr, zP_r14_11 hr, zP_r14_12 hr, zP_r14_13 hr, zP_r14_14 hr, zP_r14_15 hr, zS_r15 hr, zS_r16 hr, zS_r17 hr, zS_r18 hr, zS_r19 hr, zS_r20 hr, zS_r21 hr, zS_r22 hr, zS_r23 hr, zS_r24 hr, zS_r25 hr, zS_r26 hr, zS_r27 hr, zS_r28 hr, zS_r29 hr, zS_r54 hr, zS_r55 hr, zS_r61 hr, zS_r67 hr, zS_r68 hr, zS_r69 hr, zS_r70 hr, zS_r71 hr, zS_r72 hr, zS_r73 hr, zS_r79 hr, zS_r85 hr, zS_r86 hr, zP_g_losses hr, zS_g_losses hr, zP_g_rows hr, zS_g_rows hr, zP_g_deltaBy hr, zS_g_deltaBy hr, zP_g_prices hr, zS_g_prices hr, zP_g_unrests hr, zS_g_unrests hr, lcmp_eq, ne_eq, not_false_eq_true, hab, ldiv_lit]
        refine fin _ (fun hC hu2 hs2 okd okx okr => ?_)
        have bu := pDelN_bd (b := b) (g := n) (n := 6) (fun e _ _ => bD hC e)
        have sb := pScanN_bd (b := b) (g := n) (n := (b 1).1.toNat) (fun j h0 h1' => okr j h0 (by omega))
        have pd : pDel b n = pDelN b n 6 := rfl
        have ps : pScan b n = pScanN b n (b 1).1.toNat := rfl
        have eu : fw u = pDel b n := by
          rw [hu2]
          exact fw_ok (by omega) okd
        rw [eu] at hu ⊢
        unfold pPer
        rw [if_neg hu, ← hx, hs2, lmul_ok (by omega) (by omega), fitv_ok okx, td_nn (by omega)]
end RECK4
