/-! THE REFERENCE: its row changed. -/
def Zo (T : Tb) (W : Int) : Prop := ∀ r c, ¬ (0 ≤ r ∧ r < T.1 ∧ 0 ≤ c ∧ c < W) → T.2 r c = 0
theorem Zo_put {T : Tb} {W r c v : Int} (h : Zo T W) (h0 : 0 ≤ r ∧ r < T.1) (h1 : 0 ≤ c ∧ c < W) : Zo (tPut T r c v) W := fun r' c' hn => by
  have e : (tPut T r c v).2 r' c' = if r' = r ∧ c' = c then v else T.2 r' c' := rfl
  have e1 : (tPut T r c v).1 = T.1 := rfl
  rw [e1] at hn
  rw [e, if_neg (fun h' => hn (by obtain ⟨rfl, rfl⟩ := h'; exact ⟨h0.1, h0.2, h1.1, h1.2⟩))]
  exact h r' c' hn
theorem Zo_grow {T : Tb} {W : Int} (h : Zo T W) : Zo (tGrow T) W := fun r c hn => by
  have e1 : (tGrow T).1 = T.1 + 1 := rfl
  rw [e1] at hn
  exact h r c (fun h' => hn ⟨h'.1, by omega, h'.2.2.1, h'.2.2.2⟩)
theorem Zo_rem {T : Tb} {W i : Int} (h : Zo T W) (h0 : 0 ≤ i ∧ i < T.1) : Zo (tRem T i) W := fun r c hn => by
  have e1 : (tRem T i).1 = T.1 - 1 := rfl
  have e : (tRem T i).2 r c = if r < i then T.2 r c else T.2 (r + 1) c := rfl
  rw [e1] at hn
  rw [e]
  by_cases hr : r < i
  · rw [if_pos hr]
    exact h r c (fun h' => hn ⟨h'.1, by omega, h'.2.2.1, h'.2.2.2⟩)
  · rw [if_neg hr]
    exact h (r + 1) c (fun h' => hn ⟨by omega, by omega, h'.2.2.1, h'.2.2.2⟩)
theorem Zo_zero {W : Int} : Zo tZero W := fun _ _ _ => rfl
section MROW
variable {L d N : Nat} {z X Y q r v t c n g j k e o u x y : Int} {w : gW} {m : gM} {K : Option gV → gW → gM → Prop} {b b' : Bk} {xs s s' : Int → Int}
theorem absM_6 {t : Nat} (h : 6 ≤ t) : absM s t = tb 0 0 (fun _ => 0) := by
  match t, h with
  | t + 6, _ => rfl
theorem absM_0 : absM s 0 = tb 5 6 s := rfl
theorem absM_1 : absM s 1 = tb (s 30) 3 (fun i => s (31 + i)) := rfl
theorem absM_2 : absM s 2 = tb (s 55) 6 (fun i => s (56 + i)) := rfl
theorem absM_3 : absM s 3 = tb (s 92) 5 (fun i => s (93 + i)) := rfl
theorem absM_4 : absM s 4 = tb (s 213) 2 (fun i => s (214 + i)) := rfl
theorem absM_5 : absM s 5 = tb (s 222) 2 (fun i => s (223 + i)) := rfl
theorem BM_cpy (h : BM s b) (hf : ∀ i, 0 ≤ i → i < 239 → s' i = s i) : BM s' b := by
  obtain ⟨hr, rfl⟩ := h
  have e30 := hf 30 (by omega) (by omega)
  have e55 := hf 55 (by omega) (by omega)
  have e92 := hf 92 (by omega) (by omega)
  have e213 := hf 213 (by omega) (by omega)
  have e222 := hf 222 (by omega) (by omega)
  refine ⟨by rw [e30, e55, e92, e213, e222]; exact hr, ?_⟩
  refine bk_ext ?_ ?_ ?_ ?_ ?_ ?_ (fun t ht => by rw [absM_6 ht, absM_6 ht])
  · rw [absM_0, absM_0]
    exact tb_cpy (by omega) (fun i h0 h1 => hf i h0 (by omega))
  · rw [absM_1, absM_1, e30]
    exact tb_cpy (by omega) (fun i h0 h1 => hf _ (by omega) (by omega))
  · rw [absM_2, absM_2, e55]
    exact tb_cpy (by omega) (fun i h0 h1 => hf _ (by omega) (by omega))
  · rw [absM_3, absM_3, e92]
    exact tb_cpy (by omega) (fun i h0 h1 => hf _ (by omega) (by omega))
  · rw [absM_4, absM_4, e213]
    exact tb_cpy (by omega) (fun i h0 h1 => hf _ (by omega) (by omega))
  · rw [absM_5, absM_5, e222]
    exact tb_cpy (by omega) (fun i h0 h1 => hf _ (by omega) (by omega))
theorem BM_put0 (h : BM s b) (g0 : 0 ≤ g) (g1 : g < 5) (c0 : 0 ≤ c) (c1 : c < 6) (hv : s' (6 * g + c) = v) (hf : ∀ i, i ≠ 6 * g + c → s' i = s i) : BM s' (bSet b 0 (tPut (b 0) g c v)) := by
  obtain ⟨hr, rfl⟩ := h
  have e30 := hf 30 (by omega)
  have e55 := hf 55 (by omega)
  have e92 := hf 92 (by omega)
  have e213 := hf 213 (by omega)
  have e222 := hf 222 (by omega)
  refine ⟨by rw [e30, e55, e92, e213, e222]; exact hr, ?_⟩
  refine bk_ext ?_ ?_ ?_ ?_ ?_ ?_ (fun t ht => by rw [bSet_ne (by omega), absM_6 ht, absM_6 ht])
  · rw [bSet_eq, absM_0, absM_0, ← tb_put g0 g1 c0 c1]
    exact tb_cpy (by omega) (fun i h0 h1 => by
      by_cases hi : i = g * 6 + c
      · rw [if_pos hi, hi, Int.mul_comm]; exact hv
      · rw [if_neg hi]; exact hf i (by omega))
  · rw [bSet_ne (by omega), absM_1, absM_1, e30]
    exact tb_cpy (by omega) (fun i h0 h1 => hf _ (by omega))
  · rw [bSet_ne (by omega), absM_2, absM_2, e55]
    exact tb_cpy (by omega) (fun i h0 h1 => hf _ (by omega))
  · rw [bSet_ne (by omega), absM_3, absM_3, e92]
    exact tb_cpy (by omega) (fun i h0 h1 => hf _ (by omega))
  · rw [bSet_ne (by omega), absM_4, absM_4, e213]
    exact tb_cpy (by omega) (fun i h0 h1 => hf _ (by omega))
  · rw [bSet_ne (by omega), absM_5, absM_5, e222]
    exact tb_cpy (by omega) (fun i h0 h1 => hf _ (by omega))
theorem BM_z1 (h : BM s b) : Zo (b 1) 3 := by
  obtain ⟨hr, rfl⟩ := h
  intro r c hn
  exact if_neg hn
theorem BM_set1 {T : Tb} (h : BM s b) (hn : s' 30 = T.1) (hr : 0 ≤ T.1 ∧ T.1 ≤ 8) (hv : ∀ r c, 0 ≤ r → r < T.1 → 0 ≤ c → c < 3 → s' (31 + (r * 3 + c)) = T.2 r c) (hz : Zo T 3) (hf : ∀ i, i < 239 → (i < 30 ∨ 54 < i) → s' i = s i) : BM s' (bSet b 1 T) := by
  obtain ⟨hrr, rfl⟩ := h
  have e55 := hf 55 (by omega) (by omega)
  have e92 := hf 92 (by omega) (by omega)
  have e213 := hf 213 (by omega) (by omega)
  have e222 := hf 222 (by omega) (by omega)
  refine ⟨⟨by rw [hn]; exact hr, by rw [e55]; exact hrr.2.1, by rw [e92]; exact hrr.2.2.1, by rw [e213]; exact hrr.2.2.2.1, by rw [e222]; exact hrr.2.2.2.2⟩, ?_⟩
  refine bk_ext ?_ ?_ ?_ ?_ ?_ ?_ (fun t ht => by rw [bSet_ne (by omega), absM_6 ht, absM_6 ht])
  · rw [bSet_ne (by omega), absM_0, absM_0]
    exact tb_cpy (by omega) (fun i h0 h1 => hf _ (by omega) (by omega))
  · rw [bSet_eq, absM_1, hn]
    refine Prod.ext rfl ?_
    funext r c
    show (if _ then _ else _) = _
    by_cases hi : 0 ≤ r ∧ r < T.1 ∧ 0 ≤ c ∧ c < 3
    · rw [if_pos hi]
      exact hv r c hi.1 hi.2.1 hi.2.2.1 hi.2.2.2
    · rw [if_neg hi, hz r c hi]
  · rw [bSet_ne (by omega), absM_2, absM_2, e55]
    exact tb_cpy (by omega) (fun i h0 h1 => hf _ (by omega) (by omega))
  · rw [bSet_ne (by omega), absM_3, absM_3, e92]
    exact tb_cpy (by omega) (fun i h0 h1 => hf _ (by omega) (by omega))
  · rw [bSet_ne (by omega), absM_4, absM_4, e213]
    exact tb_cpy (by omega) (fun i h0 h1 => hf _ (by omega) (by omega))
  · rw [bSet_ne (by omega), absM_5, absM_5, e222]
    exact tb_cpy (by omega) (fun i h0 h1 => hf _ (by omega) (by omega))
theorem BM_z2 (h : BM s b) : Zo (b 2) 6 := by
  obtain ⟨hr, rfl⟩ := h
  intro r c hn
  exact if_neg hn
theorem BM_set2 {T : Tb} (h : BM s b) (hn : s' 55 = T.1) (hr : 0 ≤ T.1 ∧ T.1 ≤ 6) (hv : ∀ r c, 0 ≤ r → r < T.1 → 0 ≤ c → c < 6 → s' (56 + (r * 6 + c)) = T.2 r c) (hz : Zo T 6) (hf : ∀ i, i < 239 → (i < 55 ∨ 91 < i) → s' i = s i) : BM s' (bSet b 2 T) := by
  obtain ⟨hrr, rfl⟩ := h
  have e30 := hf 30 (by omega) (by omega)
  have e92 := hf 92 (by omega) (by omega)
  have e213 := hf 213 (by omega) (by omega)
  have e222 := hf 222 (by omega) (by omega)
  refine ⟨⟨by rw [e30]; exact hrr.1, by rw [hn]; exact hr, by rw [e92]; exact hrr.2.2.1, by rw [e213]; exact hrr.2.2.2.1, by rw [e222]; exact hrr.2.2.2.2⟩, ?_⟩
  refine bk_ext ?_ ?_ ?_ ?_ ?_ ?_ (fun t ht => by rw [bSet_ne (by omega), absM_6 ht, absM_6 ht])
  · rw [bSet_ne (by omega), absM_0, absM_0]
    exact tb_cpy (by omega) (fun i h0 h1 => hf _ (by omega) (by omega))
  · rw [bSet_ne (by omega), absM_1, absM_1, e30]
    exact tb_cpy (by omega) (fun i h0 h1 => hf _ (by omega) (by omega))
  · rw [bSet_eq, absM_2, hn]
    refine Prod.ext rfl ?_
    funext r c
    show (if _ then _ else _) = _
    by_cases hi : 0 ≤ r ∧ r < T.1 ∧ 0 ≤ c ∧ c < 6
    · rw [if_pos hi]
      exact hv r c hi.1 hi.2.1 hi.2.2.1 hi.2.2.2
    · rw [if_neg hi, hz r c hi]
  · rw [bSet_ne (by omega), absM_3, absM_3, e92]
    exact tb_cpy (by omega) (fun i h0 h1 => hf _ (by omega) (by omega))
  · rw [bSet_ne (by omega), absM_4, absM_4, e213]
    exact tb_cpy (by omega) (fun i h0 h1 => hf _ (by omega) (by omega))
  · rw [bSet_ne (by omega), absM_5, absM_5, e222]
    exact tb_cpy (by omega) (fun i h0 h1 => hf _ (by omega) (by omega))
theorem BM_z3 (h : BM s b) : Zo (b 3) 5 := by
  obtain ⟨hr, rfl⟩ := h
  intro r c hn
  exact if_neg hn
theorem BM_set3 {T : Tb} (h : BM s b) (hn : s' 92 = T.1) (hr : 0 ≤ T.1 ∧ T.1 ≤ 24) (hv : ∀ r c, 0 ≤ r → r < T.1 → 0 ≤ c → c < 5 → s' (93 + (r * 5 + c)) = T.2 r c) (hz : Zo T 5) (hf : ∀ i, i < 239 → (i < 92 ∨ 212 < i) → s' i = s i) : BM s' (bSet b 3 T) := by
  obtain ⟨hrr, rfl⟩ := h
  have e30 := hf 30 (by omega) (by omega)
  have e55 := hf 55 (by omega) (by omega)
  have e213 := hf 213 (by omega) (by omega)
  have e222 := hf 222 (by omega) (by omega)
  refine ⟨⟨by rw [e30]; exact hrr.1, by rw [e55]; exact hrr.2.1, by rw [hn]; exact hr, by rw [e213]; exact hrr.2.2.2.1, by rw [e222]; exact hrr.2.2.2.2⟩, ?_⟩
  refine bk_ext ?_ ?_ ?_ ?_ ?_ ?_ (fun t ht => by rw [bSet_ne (by omega), absM_6 ht, absM_6 ht])
  · rw [bSet_ne (by omega), absM_0, absM_0]
    exact tb_cpy (by omega) (fun i h0 h1 => hf _ (by omega) (by omega))
  · rw [bSet_ne (by omega), absM_1, absM_1, e30]
    exact tb_cpy (by omega) (fun i h0 h1 => hf _ (by omega) (by omega))
  · rw [bSet_ne (by omega), absM_2, absM_2, e55]
    exact tb_cpy (by omega) (fun i h0 h1 => hf _ (by omega) (by omega))
  · rw [bSet_eq, absM_3, hn]
    refine Prod.ext rfl ?_
    funext r c
    show (if _ then _ else _) = _
    by_cases hi : 0 ≤ r ∧ r < T.1 ∧ 0 ≤ c ∧ c < 5
    · rw [if_pos hi]
      exact hv r c hi.1 hi.2.1 hi.2.2.1 hi.2.2.2
    · rw [if_neg hi, hz r c hi]
  · rw [bSet_ne (by omega), absM_4, absM_4, e213]
    exact tb_cpy (by omega) (fun i h0 h1 => hf _ (by omega) (by omega))
  · rw [bSet_ne (by omega), absM_5, absM_5, e222]
    exact tb_cpy (by omega) (fun i h0 h1 => hf _ (by omega) (by omega))
theorem BM_z4 (h : BM s b) : Zo (b 4) 2 := by
  obtain ⟨hr, rfl⟩ := h
  intro r c hn
  exact if_neg hn
theorem BM_set4 {T : Tb} (h : BM s b) (hn : s' 213 = T.1) (hr : 0 ≤ T.1 ∧ T.1 ≤ 4) (hv : ∀ r c, 0 ≤ r → r < T.1 → 0 ≤ c → c < 2 → s' (214 + (r * 2 + c)) = T.2 r c) (hz : Zo T 2) (hf : ∀ i, i < 239 → (i < 213 ∨ 221 < i) → s' i = s i) : BM s' (bSet b 4 T) := by
  obtain ⟨hrr, rfl⟩ := h
  have e30 := hf 30 (by omega) (by omega)
  have e55 := hf 55 (by omega) (by omega)
  have e92 := hf 92 (by omega) (by omega)
  have e222 := hf 222 (by omega) (by omega)
  refine ⟨⟨by rw [e30]; exact hrr.1, by rw [e55]; exact hrr.2.1, by rw [e92]; exact hrr.2.2.1, by rw [hn]; exact hr, by rw [e222]; exact hrr.2.2.2.2⟩, ?_⟩
  refine bk_ext ?_ ?_ ?_ ?_ ?_ ?_ (fun t ht => by rw [bSet_ne (by omega), absM_6 ht, absM_6 ht])
  · rw [bSet_ne (by omega), absM_0, absM_0]
    exact tb_cpy (by omega) (fun i h0 h1 => hf _ (by omega) (by omega))
  · rw [bSet_ne (by omega), absM_1, absM_1, e30]
    exact tb_cpy (by omega) (fun i h0 h1 => hf _ (by omega) (by omega))
  · rw [bSet_ne (by omega), absM_2, absM_2, e55]
    exact tb_cpy (by omega) (fun i h0 h1 => hf _ (by omega) (by omega))
  · rw [bSet_ne (by omega), absM_3, absM_3, e92]
    exact tb_cpy (by omega) (fun i h0 h1 => hf _ (by omega) (by omega))
  · rw [bSet_eq, absM_4, hn]
    refine Prod.ext rfl ?_
    funext r c
    show (if _ then _ else _) = _
    by_cases hi : 0 ≤ r ∧ r < T.1 ∧ 0 ≤ c ∧ c < 2
    · rw [if_pos hi]
      exact hv r c hi.1 hi.2.1 hi.2.2.1 hi.2.2.2
    · rw [if_neg hi, hz r c hi]
  · rw [bSet_ne (by omega), absM_5, absM_5, e222]
    exact tb_cpy (by omega) (fun i h0 h1 => hf _ (by omega) (by omega))
theorem BM_z5 (h : BM s b) : Zo (b 5) 2 := by
  obtain ⟨hr, rfl⟩ := h
  intro r c hn
  exact if_neg hn
theorem BM_set5 {T : Tb} (h : BM s b) (hn : s' 222 = T.1) (hr : 0 ≤ T.1 ∧ T.1 ≤ 8) (hv : ∀ r c, 0 ≤ r → r < T.1 → 0 ≤ c → c < 2 → s' (223 + (r * 2 + c)) = T.2 r c) (hz : Zo T 2) (hf : ∀ i, i < 239 → (i < 222 ∨ 238 < i) → s' i = s i) : BM s' (bSet b 5 T) := by
  obtain ⟨hrr, rfl⟩ := h
  have e30 := hf 30 (by omega) (by omega)
  have e55 := hf 55 (by omega) (by omega)
  have e92 := hf 92 (by omega) (by omega)
  have e213 := hf 213 (by omega) (by omega)
  refine ⟨⟨by rw [e30]; exact hrr.1, by rw [e55]; exact hrr.2.1, by rw [e92]; exact hrr.2.2.1, by rw [e213]; exact hrr.2.2.2.1, by rw [hn]; exact hr⟩, ?_⟩
  refine bk_ext ?_ ?_ ?_ ?_ ?_ ?_ (fun t ht => by rw [bSet_ne (by omega), absM_6 ht, absM_6 ht])
  · rw [bSet_ne (by omega), absM_0, absM_0]
    exact tb_cpy (by omega) (fun i h0 h1 => hf _ (by omega) (by omega))
  · rw [bSet_ne (by omega), absM_1, absM_1, e30]
    exact tb_cpy (by omega) (fun i h0 h1 => hf _ (by omega) (by omega))
  · rw [bSet_ne (by omega), absM_2, absM_2, e55]
    exact tb_cpy (by omega) (fun i h0 h1 => hf _ (by omega) (by omega))
  · rw [bSet_ne (by omega), absM_3, absM_3, e92]
    exact tb_cpy (by omega) (fun i h0 h1 => hf _ (by omega) (by omega))
  · rw [bSet_ne (by omega), absM_4, absM_4, e213]
    exact tb_cpy (by omega) (fun i h0 h1 => hf _ (by omega) (by omega))
  · rw [bSet_eq, absM_5, hn]
    refine Prod.ext rfl ?_
    funext r c
    show (if _ then _ else _) = _
    by_cases hi : 0 ≤ r ∧ r < T.1 ∧ 0 ≤ c ∧ c < 2
    · rw [if_pos hi]
      exact hv r c hi.1 hi.2.1 hi.2.2.1 hi.2.2.2
    · rw [if_neg hi, hz r c hi]
set_option maxHeartbeats 400000 in
theorem m_leaves1 [NeZero (z % 2)] (hb : BM (m 214) b) (h0 : 0 ≤ x) (h1 : x < (b 1).1) (hk : ∀ m', (∀ a, a ≠ 214 → m' a = m a) → BM (m' 214) (bSet b 1 (tRem (b 1) x)) → K none (w0 L z X Y) m') : C (d + 1) M_X8_leaves [(2, 213), (0, 30), (0, 31), (0, 3), (0, x)] (w0 L z X Y) m K := by
  have hs := bm_s1 hb
  have hn := bm_n1 hb
  simp (disch := first | assumption | omega | (simp (disch := omega) only [gU_row, gU_same, gU_i, gCp_row] <;> omega)) only [e_X8_leaves, s_X8_leaves_0, s_X8_leaves_1, s_X8_leaves_4, s_X8_leaves_5, s_X8_leaves_6, s_X8_leaves_7, s_X8_leaves_8, s_X8_leaves_9, s_X8_leaves_10, s_X8_leaves_11, s_X8_leaves_12, s_X8_leaves_14, s_X8_leaves_15, s_X8_leaves_16, s_X8_leaves_20, s_X8_leaves_21, s_X8_leaves_22, s_X8_leaves_23, s_X8_leaves_24, s_X8_leaves_25, s_X8_leaves_26, s_X8_leaves_29, s_X8_leaves_30, s_X8_leaves_31, s_X8_leaves_32, s_X8_leaves_33, s_X8_leaves_34, s_X8_leaves_37, s_X8_leaves_38, s_X8_leaves_41, s_X8_leaves_43, s_X8_leaves_44, s_X8_leaves_47, s_X8_leaves_49, s_X8_leaves_50, s_X8_leaves_51, s_X8_leaves_52, s_X8_leaves_53, s_X8_leaves_56, s_X8_leaves_59, ↓reduceIte, Option.toList_some, Option.toList_none, List.cons_append, List.nil_append, List.singleton_append, List.append_nil, true_and, and_true, true_or, or_true, andT, iteT, iteF, itT, itF, zS_213, zP_213_0, zP_213_1, zP_213_2, zP_213_3, zP_213_6, zP_213_7, zP_213_8, zP_213_9, zP_213_10, zP_213_11, zP_213_12, zP_213_13, zP_213_14, zP_213_15, zP_213_16, zP_213_17, zP_213_18, zP_213_19, zP_213_20, zP_213_21, zP_213_22, zP_213_23, zP_213_24, zP_213_32, zP_213_33, zP_213_34, zP_213_38, zP_213_39, zP_213_40, zP_213_41, zS_214, zS_215, zS_216, zS_217, zS_218, zS_219, zS_220, zS_221, zS_222, zS_223, zS_224, zS_225, zS_226, zS_227, zS_228, zS_229, zS_230, zS_231, zS_232, zS_233, zS_234, zS_235, zS_236, zS_237, zS_238, zS_239, zS_240, zS_241, zS_242, zS_243, hn, lsub_ok, imul_ok, iadd_ok]
  generalize hN : (b 1).1 = N at *
  refine R_for0 (3 * (N - 1 - x)).toNat (fun i ls m' => ls = [(2, 213), (0, 30), (0, 31), (0, 3), (0, x), (0, 31 + 3 * x + i)] ∧ (∀ a, a ≠ 214 → m' a = m a) ∧ (∀ j, m' 214 j = if 31 + 3 * x ≤ j ∧ j < 31 + 3 * x + i then m 214 (j + 3) else if j = 30 then N - 1 else m 214 j)) ⟨by simp, fun a ha => gU_row ha, fun j => ?_⟩ ?_ ?_
  · rw [if_neg (by omega), gU_rw]
  · rintro i ls m1 hi ⟨rfl, f1, q1⟩ hn1
    have e1 := q1 30
    rw [if_neg (by omega), if_pos rfl] at e1
    have e2 := q1 (31 + 3 * x + i + 3)
    rw [if_neg (by omega), if_neg (by omega)] at e2
    rw [s_X8_leaves_18]
    simp (disch := first | assumption | omega | (simp (disch := omega) only [gU_row, gU_same, gU_i, gCp_row] <;> omega)) only [e_X8_leaves, s_X8_leaves_0, s_X8_leaves_1, s_X8_leaves_4, s_X8_leaves_5, s_X8_leaves_6, s_X8_leaves_7, s_X8_leaves_8, s_X8_leaves_9, s_X8_leaves_10, s_X8_leaves_11, s_X8_leaves_12, s_X8_leaves_14, s_X8_leaves_15, s_X8_leaves_16, s_X8_leaves_20, s_X8_leaves_21, s_X8_leaves_22, s_X8_leaves_23, s_X8_leaves_24, s_X8_leaves_25, s_X8_leaves_26, s_X8_leaves_29, s_X8_leaves_30, s_X8_leaves_31, s_X8_leaves_32, s_X8_leaves_33, s_X8_leaves_34, s_X8_leaves_37, s_X8_leaves_38, s_X8_leaves_41, s_X8_leaves_43, s_X8_leaves_44, s_X8_leaves_47, s_X8_leaves_49, s_X8_leaves_50, s_X8_leaves_51, s_X8_leaves_52, s_X8_leaves_53, s_X8_leaves_56, s_X8_leaves_59, ↓reduceIte, Option.toList_some, Option.toList_none, List.cons_append, List.nil_append, List.singleton_append, List.append_nil, true_and, and_true, true_or, or_true, andT, iteT, iteF, itT, itF, zS_213, zP_213_0, zP_213_1, zP_213_2, zP_213_3, zP_213_6, zP_213_7, zP_213_8, zP_213_9, zP_213_10, zP_213_11, zP_213_12, zP_213_13, zP_213_14, zP_213_15, zP_213_16, zP_213_17, zP_213_18, zP_213_19, zP_213_20, zP_213_21, zP_213_22, zP_213_23, zP_213_24, zP_213_32, zP_213_33, zP_213_34, zP_213_38, zP_213_39, zP_213_40, zP_213_41, zS_214, zS_215, zS_216, zS_217, zS_218, zS_219, zS_220, zS_221, zS_222, zS_223, zS_224, zS_225, zS_226, zS_227, zS_228, zS_229, zS_230, zS_231, zS_232, zS_233, zS_234, zS_235, zS_236, zS_237, zS_238, zS_239, zS_240, zS_241, zS_242, zS_243, e1, lmul_ok, ladd_ok, lcmp_ge, iadd_ok, e2]
    refine hn1 _ _ ⟨by simp [Int.add_assoc], fun a ha => by rw [gU_row ha, f1 a ha], fun j => ?_⟩
    rw [gU_rw]
    show (if _ then _ else _) = _
    by_cases hj : j = 31 + 3 * x + i
    · rw [if_pos hj, if_pos (by omega), hj]
    · rw [if_neg hj, q1 j]
      by_cases hc : 31 + 3 * x ≤ j ∧ j < 31 + 3 * x + i
      · rw [if_pos hc, if_pos (by omega)]
      · rw [if_neg hc, if_neg (show ¬ (31 + 3 * x ≤ j ∧ j < 31 + 3 * x + ((i + 1 : Nat) : Int)) by omega)]
  · rintro ls m1 ⟨rfl, f1, q1⟩
    have e1 := q1 30
    rw [if_neg (by omega), if_pos rfl] at e1
    rw [s_X8_leaves_18]
    simp (disch := first | assumption | omega | (simp (disch := omega) only [gU_row, gU_same, gU_i, gCp_row] <;> omega)) only [e_X8_leaves, s_X8_leaves_0, s_X8_leaves_1, s_X8_leaves_4, s_X8_leaves_5, s_X8_leaves_6, s_X8_leaves_7, s_X8_leaves_8, s_X8_leaves_9, s_X8_leaves_10, s_X8_leaves_11, s_X8_leaves_12, s_X8_leaves_14, s_X8_leaves_15, s_X8_leaves_16, s_X8_leaves_20, s_X8_leaves_21, s_X8_leaves_22, s_X8_leaves_23, s_X8_leaves_24, s_X8_leaves_25, s_X8_leaves_26, s_X8_leaves_29, s_X8_leaves_30, s_X8_leaves_31, s_X8_leaves_32, s_X8_leaves_33, s_X8_leaves_34, s_X8_leaves_37, s_X8_leaves_38, s_X8_leaves_41, s_X8_leaves_43, s_X8_leaves_44, s_X8_leaves_47, s_X8_leaves_49, s_X8_leaves_50, s_X8_leaves_51, s_X8_leaves_52, s_X8_leaves_53, s_X8_leaves_56, s_X8_leaves_59, ↓reduceIte, Option.toList_some, Option.toList_none, List.cons_append, List.nil_append, List.singleton_append, List.append_nil, true_and, and_true, true_or, or_true, andT, iteT, iteF, itT, itF, zS_213, zP_213_0, zP_213_1, zP_213_2, zP_213_3, zP_213_6, zP_213_7, zP_213_8, zP_213_9, zP_213_10, zP_213_11, zP_213_12, zP_213_13, zP_213_14, zP_213_15, zP_213_16, zP_213_17, zP_213_18, zP_213_19, zP_213_20, zP_213_21, zP_213_22, zP_213_23, zP_213_24, zP_213_32, zP_213_33, zP_213_34, zP_213_38, zP_213_39, zP_213_40, zP_213_41, zS_214, zS_215, zS_216, zS_217, zS_218, zS_219, zS_220, zS_221, zS_222, zS_223, zS_224, zS_225, zS_226, zS_227, zS_228, zS_229, zS_230, zS_231, zS_232, zS_233, zS_234, zS_235, zS_236, zS_237, zS_238, zS_239, zS_240, zS_241, zS_242, zS_243, e1, lmul_ok, ladd_ok, lcmp_ge]
    refine hk m1 f1 (BM_set1 hb (T := tRem (b 1) x) (by rw [e1, ← hN]; rfl) (by show 0 ≤ (b 1).1 - 1 ∧ (b 1).1 - 1 ≤ 8; omega) (fun r c r0 r1 c0 c1 => ?_) (Zo_rem (BM_z1 hb) ⟨h0, by omega⟩) (fun i hi h' => by rw [q1 i, if_neg (by omega), if_neg (by omega)]))
    have r1' : r < (b 1).1 - 1 := r1
    have e : (tRem (b 1) x).2 r c = if r < x then (b 1).2 r c else (b 1).2 (r + 1) c := rfl
    rw [q1, e]
    by_cases hr : r < x
    · rw [if_neg (by omega), if_neg (by omega), if_pos hr]
      have := bm_1 hb r0 (show r < (b 1).1 by omega) c0 c1
      rw [← this]
      congr 1
      omega
    · rw [if_pos (by omega), if_neg hr]
      have := bm_1 hb (show 0 ≤ r + 1 by omega) (show r + 1 < (b 1).1 by omega) c0 c1
      rw [← this]
      congr 1
      omega
set_option maxHeartbeats 400000 in
theorem m_leaves2 [NeZero (z % 2)] (hb : BM (m 214) b) (h0 : 0 ≤ x) (h1 : x < (b 2).1) (hk : ∀ m', (∀ a, a ≠ 214 → m' a = m a) → BM (m' 214) (bSet b 2 (tRem (b 2) x)) → K none (w0 L z X Y) m') : C (d + 1) M_X8_leaves [(2, 213), (0, 55), (0, 56), (0, 6), (0, x)] (w0 L z X Y) m K := by
  have hs := bm_s2 hb
  have hn := bm_n2 hb
  simp (disch := first | assumption | omega | (simp (disch := omega) only [gU_row, gU_same, gU_i, gCp_row] <;> omega)) only [e_X8_leaves, s_X8_leaves_0, s_X8_leaves_1, s_X8_leaves_4, s_X8_leaves_5, s_X8_leaves_6, s_X8_leaves_7, s_X8_leaves_8, s_X8_leaves_9, s_X8_leaves_10, s_X8_leaves_11, s_X8_leaves_12, s_X8_leaves_14, s_X8_leaves_15, s_X8_leaves_16, s_X8_leaves_20, s_X8_leaves_21, s_X8_leaves_22, s_X8_leaves_23, s_X8_leaves_24, s_X8_leaves_25, s_X8_leaves_26, s_X8_leaves_29, s_X8_leaves_30, s_X8_leaves_31, s_X8_leaves_32, s_X8_leaves_33, s_X8_leaves_34, s_X8_leaves_37, s_X8_leaves_38, s_X8_leaves_41, s_X8_leaves_43, s_X8_leaves_44, s_X8_leaves_47, s_X8_leaves_49, s_X8_leaves_50, s_X8_leaves_51, s_X8_leaves_52, s_X8_leaves_53, s_X8_leaves_56, s_X8_leaves_59, ↓reduceIte, Option.toList_some, Option.toList_none, List.cons_append, List.nil_append, List.singleton_append, List.append_nil, true_and, and_true, true_or, or_true, andT, iteT, iteF, itT, itF, zS_213, zP_213_0, zP_213_1, zP_213_2, zP_213_3, zP_213_6, zP_213_7, zP_213_8, zP_213_9, zP_213_10, zP_213_11, zP_213_12, zP_213_13, zP_213_14, zP_213_15, zP_213_16, zP_213_17, zP_213_18, zP_213_19, zP_213_20, zP_213_21, zP_213_22, zP_213_23, zP_213_24, zP_213_32, zP_213_33, zP_213_34, zP_213_38, zP_213_39, zP_213_40, zP_213_41, zS_214, zS_215, zS_216, zS_217, zS_218, zS_219, zS_220, zS_221, zS_222, zS_223, zS_224, zS_225, zS_226, zS_227, zS_228, zS_229, zS_230, zS_231, zS_232, zS_233, zS_234, zS_235, zS_236, zS_237, zS_238, zS_239, zS_240, zS_241, zS_242, zS_243, hn, lsub_ok, imul_ok, iadd_ok]
  generalize hN : (b 2).1 = N at *
  refine R_for0 (6 * (N - 1 - x)).toNat (fun i ls m' => ls = [(2, 213), (0, 55), (0, 56), (0, 6), (0, x), (0, 56 + 6 * x + i)] ∧ (∀ a, a ≠ 214 → m' a = m a) ∧ (∀ j, m' 214 j = if 56 + 6 * x ≤ j ∧ j < 56 + 6 * x + i then m 214 (j + 6) else if j = 55 then N - 1 else m 214 j)) ⟨by simp, fun a ha => gU_row ha, fun j => ?_⟩ ?_ ?_
  · rw [if_neg (by omega), gU_rw]
  · rintro i ls m1 hi ⟨rfl, f1, q1⟩ hn1
    have e1 := q1 55
    rw [if_neg (by omega), if_pos rfl] at e1
    have e2 := q1 (56 + 6 * x + i + 6)
    rw [if_neg (by omega), if_neg (by omega)] at e2
    rw [s_X8_leaves_18]
    simp (disch := first | assumption | omega | (simp (disch := omega) only [gU_row, gU_same, gU_i, gCp_row] <;> omega)) only [e_X8_leaves, s_X8_leaves_0, s_X8_leaves_1, s_X8_leaves_4, s_X8_leaves_5, s_X8_leaves_6, s_X8_leaves_7, s_X8_leaves_8, s_X8_leaves_9, s_X8_leaves_10, s_X8_leaves_11, s_X8_leaves_12, s_X8_leaves_14, s_X8_leaves_15, s_X8_leaves_16, s_X8_leaves_20, s_X8_leaves_21, s_X8_leaves_22, s_X8_leaves_23, s_X8_leaves_24, s_X8_leaves_25, s_X8_leaves_26, s_X8_leaves_29, s_X8_leaves_30, s_X8_leaves_31, s_X8_leaves_32, s_X8_leaves_33, s_X8_leaves_34, s_X8_leaves_37, s_X8_leaves_38, s_X8_leaves_41, s_X8_leaves_43, s_X8_leaves_44, s_X8_leaves_47, s_X8_leaves_49, s_X8_leaves_50, s_X8_leaves_51, s_X8_leaves_52, s_X8_leaves_53, s_X8_leaves_56, s_X8_leaves_59, ↓reduceIte, Option.toList_some, Option.toList_none, List.cons_append, List.nil_append, List.singleton_append, List.append_nil, true_and, and_true, true_or, or_true, andT, iteT, iteF, itT, itF, zS_213, zP_213_0, zP_213_1, zP_213_2, zP_213_3, zP_213_6, zP_213_7, zP_213_8, zP_213_9, zP_213_10, zP_213_11, zP_213_12, zP_213_13, zP_213_14, zP_213_15, zP_213_16, zP_213_17, zP_213_18, zP_213_19, zP_213_20, zP_213_21, zP_213_22, zP_213_23, zP_213_24, zP_213_32, zP_213_33, zP_213_34, zP_213_38, zP_213_39, zP_213_40, zP_213_41, zS_214, zS_215, zS_216, zS_217, zS_218, zS_219, zS_220, zS_221, zS_222, zS_223, zS_224, zS_225, zS_226, zS_227, zS_228, zS_229, zS_230, zS_231, zS_232, zS_233, zS_234, zS_235, zS_236, zS_237, zS_238, zS_239, zS_240, zS_241, zS_242, zS_243, e1, lmul_ok, ladd_ok, lcmp_ge, iadd_ok, e2]
    refine hn1 _ _ ⟨by simp [Int.add_assoc], fun a ha => by rw [gU_row ha, f1 a ha], fun j => ?_⟩
    rw [gU_rw]
    show (if _ then _ else _) = _
    by_cases hj : j = 56 + 6 * x + i
    · rw [if_pos hj, if_pos (by omega), hj]
    · rw [if_neg hj, q1 j]
      by_cases hc : 56 + 6 * x ≤ j ∧ j < 56 + 6 * x + i
      · rw [if_pos hc, if_pos (by omega)]
      · rw [if_neg hc, if_neg (show ¬ (56 + 6 * x ≤ j ∧ j < 56 + 6 * x + ((i + 1 : Nat) : Int)) by omega)]
  · rintro ls m1 ⟨rfl, f1, q1⟩
    have e1 := q1 55
    rw [if_neg (by omega), if_pos rfl] at e1
    rw [s_X8_leaves_18]
    simp (disch := first | assumption | omega | (simp (disch := omega) only [gU_row, gU_same, gU_i, gCp_row] <;> omega)) only [e_X8_leaves, s_X8_leaves_0, s_X8_leaves_1, s_X8_leaves_4, s_X8_leaves_5, s_X8_leaves_6, s_X8_leaves_7, s_X8_leaves_8, s_X8_leaves_9, s_X8_leaves_10, s_X8_leaves_11, s_X8_leaves_12, s_X8_leaves_14, s_X8_leaves_15, s_X8_leaves_16, s_X8_leaves_20, s_X8_leaves_21, s_X8_leaves_22, s_X8_leaves_23, s_X8_leaves_24, s_X8_leaves_25, s_X8_leaves_26, s_X8_leaves_29, s_X8_leaves_30, s_X8_leaves_31, s_X8_leaves_32, s_X8_leaves_33, s_X8_leaves_34, s_X8_leaves_37, s_X8_leaves_38, s_X8_leaves_41, s_X8_leaves_43, s_X8_leaves_44, s_X8_leaves_47, s_X8_leaves_49, s_X8_leaves_50, s_X8_leaves_51, s_X8_leaves_52, s_X8_leaves_53, s_X8_leaves_56, s_X8_leaves_59, ↓reduceIte, Option.toList_some, Option.toList_none, List.cons_append, List.nil_append, List.singleton_append, List.append_nil, true_and, and_true, true_or, or_true, andT, iteT, iteF, itT, itF, zS_213, zP_213_0, zP_213_1, zP_213_2, zP_213_3, zP_213_6, zP_213_7, zP_213_8, zP_213_9, zP_213_10, zP_213_11, zP_213_12, zP_213_13, zP_213_14, zP_213_15, zP_213_16, zP_213_17, zP_213_18, zP_213_19, zP_213_20, zP_213_21, zP_213_22, zP_213_23, zP_213_24, zP_213_32, zP_213_33, zP_213_34, zP_213_38, zP_213_39, zP_213_40, zP_213_41, zS_214, zS_215, zS_216, zS_217, zS_218, zS_219, zS_220, zS_221, zS_222, zS_223, zS_224, zS_225, zS_226, zS_227, zS_228, zS_229, zS_230, zS_231, zS_232, zS_233, zS_234, zS_235, zS_236, zS_237, zS_238, zS_239, zS_240, zS_241, zS_242, zS_243, e1, lmul_ok, ladd_ok, lcmp_ge]
    refine hk m1 f1 (BM_set2 hb (T := tRem (b 2) x) (by rw [e1, ← hN]; rfl) (by show 0 ≤ (b 2).1 - 1 ∧ (b 2).1 - 1 ≤ 6; omega) (fun r c r0 r1 c0 c1 => ?_) (Zo_rem (BM_z2 hb) ⟨h0, by omega⟩) (fun i hi h' => by rw [q1 i, if_neg (by omega), if_neg (by omega)]))
    have r1' : r < (b 2).1 - 1 := r1
    have e : (tRem (b 2) x).2 r c = if r < x then (b 2).2 r c else (b 2).2 (r + 1) c := rfl
    rw [q1, e]
    by_cases hr : r < x
    · rw [if_neg (by omega), if_neg (by omega), if_pos hr]
      have := bm_2 hb r0 (show r < (b 2).1 by omega) c0 c1
      rw [← this]
      congr 1
      omega
    · rw [if_pos (by omega), if_neg hr]
      have := bm_2 hb (show 0 ≤ r + 1 by omega) (show r + 1 < (b 2).1 by omega) c0 c1
      rw [← this]
      congr 1
      omega
set_option maxHeartbeats 400000 in
theorem m_leaves3 [NeZero (z % 2)] (hb : BM (m 214) b) (h0 : 0 ≤ x) (h1 : x < (b 3).1) (hk : ∀ m', (∀ a, a ≠ 214 → m' a = m a) → BM (m' 214) (bSet b 3 (tRem (b 3) x)) → K none (w0 L z X Y) m') : C (d + 1) M_X8_leaves [(2, 213), (0, 92), (0, 93), (0, 5), (0, x)] (w0 L z X Y) m K := by
  have hs := bm_s3 hb
  have hn := bm_n3 hb
  simp (disch := first | assumption | omega | (simp (disch := omega) only [gU_row, gU_same, gU_i, gCp_row] <;> omega)) only [e_X8_leaves, s_X8_leaves_0, s_X8_leaves_1, s_X8_leaves_4, s_X8_leaves_5, s_X8_leaves_6, s_X8_leaves_7, s_X8_leaves_8, s_X8_leaves_9, s_X8_leaves_10, s_X8_leaves_11, s_X8_leaves_12, s_X8_leaves_14, s_X8_leaves_15, s_X8_leaves_16, s_X8_leaves_20, s_X8_leaves_21, s_X8_leaves_22, s_X8_leaves_23, s_X8_leaves_24, s_X8_leaves_25, s_X8_leaves_26, s_X8_leaves_29, s_X8_leaves_30, s_X8_leaves_31, s_X8_leaves_32, s_X8_leaves_33, s_X8_leaves_34, s_X8_leaves_37, s_X8_leaves_38, s_X8_leaves_41, s_X8_leaves_43, s_X8_leaves_44, s_X8_leaves_47, s_X8_leaves_49, s_X8_leaves_50, s_X8_leaves_51, s_X8_leaves_52, s_X8_leaves_53, s_X8_leaves_56, s_X8_leaves_59, ↓reduceIte, Option.toList_some, Option.toList_none, List.cons_append, List.nil_append, List.singleton_append, List.append_nil, true_and, and_true, true_or, or_true, andT, iteT, iteF, itT, itF, zS_213, zP_213_0, zP_213_1, zP_213_2, zP_213_3, zP_213_6, zP_213_7, zP_213_8, zP_213_9, zP_213_10, zP_213_11, zP_213_12, zP_213_13, zP_213_14, zP_213_15, zP_213_16, zP_213_17, zP_213_18, zP_213_19, zP_213_20, zP_213_21, zP_213_22, zP_213_23, zP_213_24, zP_213_32, zP_213_33, zP_213_34, zP_213_38, zP_213_39, zP_213_40, zP_213_41, zS_214, zS_215, zS_216, zS_217, zS_218, zS_219, zS_220, zS_221, zS_222, zS_223, zS_224, zS_225, zS_226, zS_227, zS_228, zS_229, zS_230, zS_231, zS_232, zS_233, zS_234, zS_235, zS_236, zS_237, zS_238, zS_239, zS_240, zS_241, zS_242, zS_243, hn, lsub_ok, imul_ok, iadd_ok]
  generalize hN : (b 3).1 = N at *
  refine R_for0 (5 * (N - 1 - x)).toNat (fun i ls m' => ls = [(2, 213), (0, 92), (0, 93), (0, 5), (0, x), (0, 93 + 5 * x + i)] ∧ (∀ a, a ≠ 214 → m' a = m a) ∧ (∀ j, m' 214 j = if 93 + 5 * x ≤ j ∧ j < 93 + 5 * x + i then m 214 (j + 5) else if j = 92 then N - 1 else m 214 j)) ⟨by simp, fun a ha => gU_row ha, fun j => ?_⟩ ?_ ?_
  · rw [if_neg (by omega), gU_rw]
  · rintro i ls m1 hi ⟨rfl, f1, q1⟩ hn1
    have e1 := q1 92
    rw [if_neg (by omega), if_pos rfl] at e1
    have e2 := q1 (93 + 5 * x + i + 5)
    rw [if_neg (by omega), if_neg (by omega)] at e2
    rw [s_X8_leaves_18]
    simp (disch := first | assumption | omega | (simp (disch := omega) only [gU_row, gU_same, gU_i, gCp_row] <;> omega)) only [e_X8_leaves, s_X8_leaves_0, s_X8_leaves_1, s_X8_leaves_4, s_X8_leaves_5, s_X8_leaves_6, s_X8_leaves_7, s_X8_leaves_8, s_X8_leaves_9, s_X8_leaves_10, s_X8_leaves_11, s_X8_leaves_12, s_X8_leaves_14, s_X8_leaves_15, s_X8_leaves_16, s_X8_leaves_20, s_X8_leaves_21, s_X8_leaves_22, s_X8_leaves_23, s_X8_leaves_24, s_X8_leaves_25, s_X8_leaves_26, s_X8_leaves_29, s_X8_leaves_30, s_X8_leaves_31, s_X8_leaves_32, s_X8_leaves_33, s_X8_leaves_34, s_X8_leaves_37, s_X8_leaves_38, s_X8_leaves_41, s_X8_leaves_43, s_X8_leaves_44, s_X8_leaves_47, s_X8_leaves_49, s_X8_leaves_50, s_X8_leaves_51, s_X8_leaves_52, s_X8_leaves_53, s_X8_leaves_56, s_X8_leaves_59, ↓reduceIte, Option.toList_some, Option.toList_none, List.cons_append, List.nil_append, List.singleton_append, List.append_nil, true_and, and_true, true_or, or_true, andT, iteT, iteF, itT, itF, zS_213, zP_213_0, zP_213_1, zP_213_2, zP_213_3, zP_213_6, zP_213_7, zP_213_8, zP_213_9, zP_213_10, zP_213_11, zP_213_12, zP_213_13, zP_213_14, zP_213_15, zP_213_16, zP_213_17, zP_213_18, zP_213_19, zP_213_20, zP_213_21, zP_213_22, zP_213_23, zP_213_24, zP_213_32, zP_213_33, zP_213_34, zP_213_38, zP_213_39, zP_213_40, zP_213_41, zS_214, zS_215, zS_216, zS_217, zS_218, zS_219, zS_220, zS_221, zS_222, zS_223, zS_224, zS_225, zS_226, zS_227, zS_228, zS_229, zS_230, zS_231, zS_232, zS_233, zS_234, zS_235, zS_236, zS_237, zS_238, zS_239, zS_240, zS_241, zS_242, zS_243, e1, lmul_ok, ladd_ok, lcmp_ge, iadd_ok, e2]
    refine hn1 _ _ ⟨by simp [Int.add_assoc], fun a ha => by rw [gU_row ha, f1 a ha], fun j => ?_⟩
    rw [gU_rw]
    show (if _ then _ else _) = _
    by_cases hj : j = 93 + 5 * x + i
    · rw [if_pos hj, if_pos (by omega), hj]
    · rw [if_neg hj, q1 j]
      by_cases hc : 93 + 5 * x ≤ j ∧ j < 93 + 5 * x + i
      · rw [if_pos hc, if_pos (by omega)]
      · rw [if_neg hc, if_neg (show ¬ (93 + 5 * x ≤ j ∧ j < 93 + 5 * x + ((i + 1 : Nat) : Int)) by omega)]
  · rintro ls m1 ⟨rfl, f1, q1⟩
    have e1 := q1 92
    rw [if_neg (by omega), if_pos rfl] at e1
    rw [s_X8_leaves_18]
    simp (disch := first | assumption | omega | (simp (disch := omega) only [gU_row, gU_same, gU_i, gCp_row] <;> omega)) only [e_X8_leaves, s_X8_leaves_0, s_X8_leaves_1, s_X8_leaves_4, s_X8_leaves_5, s_X8_leaves_6, s_X8_leaves_7, s_X8_leaves_8, s_X8_leaves_9, s_X8_leaves_10, s_X8_leaves_11, s_X8_leaves_12, s_X8_leaves_14, s_X8_leaves_15, s_X8_leaves_16, s_X8_leaves_20, s_X8_leaves_21, s_X8_leaves_22, s_X8_leaves_23, s_X8_leaves_24, s_X8_leaves_25, s_X8_leaves_26, s_X8_leaves_29, s_X8_leaves_30, s_X8_leaves_31, s_X8_leaves_32, s_X8_leaves_33, s_X8_leaves_34, s_X8_leaves_37, s_X8_leaves_38, s_X8_leaves_41, s_X8_leaves_43, s_X8_leaves_44, s_X8_leaves_47, s_X8_leaves_49, s_X8_leaves_50, s_X8_leaves_51, s_X8_leaves_52, s_X8_leaves_53, s_X8_leaves_56, s_X8_leaves_59, ↓reduceIte, Option.toList_some, Option.toList_none, List.cons_append, List.nil_append, List.singleton_append, List.append_nil, true_and, and_true, true_or, or_true, andT, iteT, iteF, itT, itF, zS_213, zP_213_0, zP_213_1, zP_213_2, zP_213_3, zP_213_6, zP_213_7, zP_213_8, zP_213_9, zP_213_10, zP_213_11, zP_213_12, zP_213_13, zP_213_14, zP_213_15, zP_213_16, zP_213_17, zP_213_18, zP_213_19, zP_213_20, zP_213_21, zP_213_22, zP_213_23, zP_213_24, zP_213_32, zP_213_33, zP_213_34, zP_213_38, zP_213_39, zP_213_40, zP_213_41, zS_214, zS_215, zS_216, zS_217, zS_218, zS_219, zS_220, zS_221, zS_222, zS_223, zS_224, zS_225, zS_226, zS_227, zS_228, zS_229, zS_230, zS_231, zS_232, zS_233, zS_234, zS_235, zS_236, zS_237, zS_238, zS_239, zS_240, zS_241, zS_242, zS_243, e1, lmul_ok, ladd_ok, lcmp_ge]
    refine hk m1 f1 (BM_set3 hb (T := tRem (b 3) x) (by rw [e1, ← hN]; rfl) (by show 0 ≤ (b 3).1 - 1 ∧ (b 3).1 - 1 ≤ 24; omega) (fun r c r0 r1 c0 c1 => ?_) (Zo_rem (BM_z3 hb) ⟨h0, by omega⟩) (fun i hi h' => by rw [q1 i, if_neg (by omega), if_neg (by omega)]))
    have r1' : r < (b 3).1 - 1 := r1
    have e : (tRem (b 3) x).2 r c = if r < x then (b 3).2 r c else (b 3).2 (r + 1) c := rfl
    rw [q1, e]
    by_cases hr : r < x
    · rw [if_neg (by omega), if_neg (by omega), if_pos hr]
      have := bm_3 hb r0 (show r < (b 3).1 by omega) c0 c1
      rw [← this]
      congr 1
      omega
    · rw [if_pos (by omega), if_neg hr]
      have := bm_3 hb (show 0 ≤ r + 1 by omega) (show r + 1 < (b 3).1 by omega) c0 c1
      rw [← this]
      congr 1
      omega
theorem isIn_T (h1 : y ≤ x) (h2 : x ≤ t) : C (d + 1) M_X8_isIn [(1, x), (1, y), (1, t)] w m K = K (some (0, 1)) w m := by
  rw [m_isIn, if_pos ⟨h1, h2⟩]
theorem isIn_F (h : ¬ (y ≤ x ∧ x ≤ t)) : C (d + 1) M_X8_isIn [(1, x), (1, y), (1, t)] w m K = K (some (0, 0)) w m := by
  rw [m_isIn, if_neg h]
theorem mGround_T (h1 : 0 ≤ g) (h2 : g ≤ 4) : C (d + 2) M_X8_isGround [(0, g)] w m K = K (some (0, 1)) w m := by
  rw [m_isGround, if_pos ⟨h1, h2⟩]
theorem mGround_F (h : ¬ (0 ≤ g ∧ g ≤ 4)) : C (d + 2) M_X8_isGround [(0, g)] w m K = K (some (0, 0)) w m := by
  rw [m_isGround, if_neg h]
theorem mTape_T (h1 : 0 ≤ g) (h2 : g ≤ 5) : C (d + 2) M_X8_isTape [(0, g)] w m K = K (some (0, 1)) w m := by
  simp (disch := first | assumption | omega | (simp (disch := omega) only [gU_row, gU_same, gU_i, gCp_row] <;> omega)) only [e_X8_isTape, s_X8_isTape_0, s_X8_isTape_1, s_X8_isTape_2, s_X8_isTape_3, s_X8_isTape_6, s_X8_isTape_9, ↓reduceIte, Option.toList_some, Option.toList_none, List.cons_append, List.nil_append, List.singleton_append, List.append_nil, true_and, and_true, true_or, or_true, andT, iteT, iteF, itT, itF, isIn_T]
theorem mTape_F (h : ¬ (0 ≤ g ∧ g ≤ 5)) : C (d + 2) M_X8_isTape [(0, g)] w m K = K (some (0, 0)) w m := by
  simp (disch := first | assumption | omega | (simp (disch := omega) only [gU_row, gU_same, gU_i, gCp_row] <;> omega)) only [e_X8_isTape, s_X8_isTape_0, s_X8_isTape_1, s_X8_isTape_2, s_X8_isTape_3, s_X8_isTape_6, s_X8_isTape_9, ↓reduceIte, Option.toList_some, Option.toList_none, List.cons_append, List.nil_append, List.singleton_append, List.append_nil, true_and, and_true, true_or, or_true, andT, iteT, iteF, itT, itF, isIn_F]
theorem mLeg_T [NeZero (z % 2)] (hb : BM (m 214) b) (h1 : 0 ≤ x) (h2 : x < (b 3).1) : C (d + 2) M_X8_isLeg [(2, 213), (0, x)] (w0 L z X Y) m K = K (some (0, 1)) (w0 L z X Y) m := by
  rw [m_isLeg hb, if_pos ⟨h1, by omega⟩]
theorem mLeg_F [NeZero (z % 2)] (hb : BM (m 214) b) (h : ¬ (0 ≤ x ∧ x < (b 3).1)) : C (d + 2) M_X8_isLeg [(2, 213), (0, x)] (w0 L z X Y) m K = K (some (0, 0)) (w0 L z X Y) m := by
  rw [m_isLeg hb, if_neg (by omega)]
theorem mMove_T [NeZero (z % 2)] (hb : BM (m 214) b) (h1 : 0 ≤ x) (h2 : x < (b 1).1) : C (d + 2) M_X8_isMove [(2, 213), (0, x)] (w0 L z X Y) m K = K (some (0, 1)) (w0 L z X Y) m := by
  rw [m_isMove hb, if_pos ⟨h1, by omega⟩]
theorem mMove_F [NeZero (z % 2)] (hb : BM (m 214) b) (h : ¬ (0 ≤ x ∧ x < (b 1).1)) : C (d + 2) M_X8_isMove [(2, 213), (0, x)] (w0 L z X Y) m K = K (some (0, 0)) (w0 L z X Y) m := by
  rw [m_isMove hb, if_neg (by omega)]
theorem mOff_T [NeZero (z % 2)] (hb : BM (m 214) b) (h1 : 0 ≤ x) (h2 : x < (b 2).1) : C (d + 2) M_X8_isOffset [(2, 213), (0, x)] (w0 L z X Y) m K = K (some (0, 1)) (w0 L z X Y) m := by
  rw [m_isOffset hb, if_pos ⟨h1, by omega⟩]
theorem mOff_F [NeZero (z % 2)] (hb : BM (m 214) b) (h : ¬ (0 ≤ x ∧ x < (b 2).1)) : C (d + 2) M_X8_isOffset [(2, 213), (0, x)] (w0 L z X Y) m K = K (some (0, 0)) (w0 L z X Y) m := by
  rw [m_isOffset hb, if_neg (by omega)]
end MROW
