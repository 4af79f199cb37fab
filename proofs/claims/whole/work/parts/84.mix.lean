/-! Int32 by its bits (begun from the kit's laws/BITS: bt, b_ext, b_or, b_and, b_0, s_l, b_shl, b_sshr); tables from which rows go. -/
def bt (x : Int32) (i : Nat) : Bool := x.toBitVec.getLsbD i
theorem b_ext {x y : Int32} (h : ∀ i, i < 32 → bt x i = bt y i) : x = y := Int32.toBitVec_inj.mp (BitVec.eq_of_getLsbD_eq (fun i hi => h i hi))
theorem b_or (x y : Int32) (i : Nat) : bt (x ||| y) i = (bt x i || bt y i) := by unfold bt; rw [Int32.toBitVec_or, BitVec.getLsbD_or]
theorem b_and (x y : Int32) (i : Nat) : bt (x &&& y) i = (bt x i && bt y i) := by unfold bt; rw [Int32.toBitVec_and, BitVec.getLsbD_and]
theorem b_0 (i : Nat) : bt 0 i = false := BitVec.getLsbD_zero
theorem s_l : ∀ n, n < 32 → ((nI n &&& 31).toBitVec.smod 32).toNat = n := by decide +kernel
theorem b_shl (n : Nat) (hn : n < 32) (x : Int32) {i : Nat} (hi : i < 32) : bt (x <<< (nI n &&& 31)) i = (decide (n ≤ i) && bt x (i - n)) := by
  unfold bt
  rw [Int32.toBitVec_shiftLeft]
  show (x.toBitVec <<< ((nI n &&& 31).toBitVec.smod 32).toNat).getLsbD i = _
  rw [s_l n hn, BitVec.getLsbD_shiftLeft]
  rcases Nat.lt_or_ge i n with h | h
  · simp [h, Nat.not_le.mpr h]
  · simp [hi, h, Nat.not_lt.mpr h]
theorem b_sshr (n : Nat) (hn : n < 32) (x : Int32) {i : Nat} (hi : i < 32) : bt (x >>> (nI n &&& 31)) i = if n + i < 32 then bt x (n + i) else bt x 31 := by
  unfold bt
  rw [Int32.toBitVec_shiftRight]
  show (x.toBitVec.sshiftRight ((nI n &&& 31).toBitVec.smod 32).toNat).getLsbD i = _
  rw [s_l n hn, BitVec.getLsbD_sshiftRight, BitVec.msb_eq_getLsbD_last]
  simp [hi]
theorem b_1 (i : Nat) (h : i < 32) : bt 1 i = decide (i = 0) := (by decide +kernel : ∀ i, i < 32 → bt 1 i = decide (i = 0)) i h
theorem ofI_n {l : Nat} (h : l < 32) : Int32.ofInt (l : Int) = nI l := Int32.toInt_inj.mp (by rw [to32 ⟨by omega, by omega⟩, nI_toInt (by omega)])
theorem ofI_t (x : Int32) : Int32.ofInt x.toInt = x := Int32.toInt_inj.mp (by rw [to32 (okI32 x)])
theorem bit_get {a : Int} {l : Nat} (h : l < 32) : iand (ishr a l) 1 = if bt (Int32.ofInt a) l = true then 1 else 0 := by
  unfold iand ishr
  rw [ofI_t, ofI_n h]
  have e : (Int32.ofInt a >>> (nI l &&& 31)) &&& Int32.ofInt 1 = if bt (Int32.ofInt a) l = true then 1 else 0 := by
    refine b_ext (fun i hi => ?_)
    have e1 : Int32.ofInt 1 = 1 := rfl
    rw [b_and, e1, b_1 i hi, b_sshr l h _ hi]
    by_cases h0 : i = 0
    · subst h0
      rw [if_pos (by omega), Nat.add_zero]
      by_cases hb : bt (Int32.ofInt a) l = true
      · rw [if_pos hb, hb]; rfl
      · rw [if_neg hb]
        simp at hb
        rw [hb]; rfl
    · have e2 : bt (if bt (Int32.ofInt a) l = true then 1 else 0) i = false := by
        by_cases hb : bt (Int32.ofInt a) l = true
        · rw [if_pos hb, b_1 i hi]; simp [h0]
        · rw [if_neg hb]; exact b_0 i
      rw [e2]
      simp [h0]
  rw [e]
  by_cases hb : bt (Int32.ofInt a) l = true
  · rw [if_pos hb, if_pos hb]; rfl
  · rw [if_neg hb, if_neg hb]; rfl
theorem bit_set {a : Int} {v l : Nat} (hv : v < 32) (h : l < 32) : bt (Int32.ofInt (ior a (ishl 1 v))) l = (bt (Int32.ofInt a) l || decide (l = v)) := by
  unfold ior ishl
  have e1 : Int32.ofInt 1 = 1 := rfl
  rw [ofI_t, ofI_t, ofI_n hv, e1, b_or, b_shl v hv _ h]
  congr 1
  by_cases h1 : v ≤ l
  · rw [b_1 _ (by omega)]
    by_cases h2 : l = v
    · subst h2; simp
    · have : ¬ (l - v = 0) := by omega
      simp [h2, this]
  · have : ¬ l = v := by omega
    simp [h1, this]
def mixT (o : Tb) (c : Int) (D : Tb) (k : Int) : Tb := (D.1, fun r c' => if c' = c ∧ 0 ≤ r ∧ r < k then o.2 r c else D.2 r c')
def DW (o U D : Tb) (c k : Int) : Prop := (k ≤ D.1 ∧ D.1 ≤ o.1) ∧ (∀ r, 0 ≤ r → r < k → D.2 r c = U.2 r c) ∧ tDropN k.toNat D c = tDrop U c
section MIX
variable {L d N : Nat} {z X Y q r v t c n g j k e s o' u x y p : Int} {w : gW} {m m' : gM} {K : Option gV → gW → gM → Prop} {b b' b1 : Bk} {o U D : Tb}
theorem mix_0 : mixT o c D 0 = D := by
  unfold mixT
  have : (fun r c' => if c' = c ∧ 0 ≤ r ∧ r < 0 then o.2 r c else D.2 r c') = D.2 := by
    funext r c'
    rw [if_neg (by omega)]
  rw [this]
theorem mix_put (h : 0 ≤ p) : tPut (mixT o c D (p + 1)) p c (D.2 p c) = mixT o c D p := by
  unfold tPut mixT
  congr 1
  funext r c'
  show (if r = p ∧ c' = c then _ else (if c' = c ∧ 0 ≤ r ∧ r < p + 1 then _ else _)) = (if c' = c ∧ 0 ≤ r ∧ r < p then _ else _)
  by_cases h1 : r = p ∧ c' = c
  · obtain ⟨rfl, rfl⟩ := h1
    rw [if_pos ⟨rfl, rfl⟩, if_neg (by omega)]
  · rw [if_neg h1]
    by_cases h2 : c' = c ∧ 0 ≤ r ∧ r < p
    · rw [if_pos (by omega), if_pos h2]
    · rw [if_neg (by omega), if_neg h2]
theorem mix_rem (h : 0 ≤ p) : tRem (mixT o c D (p + 1)) p = mixT o c (tRem D p) p := by
  unfold tRem mixT
  congr 1
  funext r c'
  show (if r < p then (if c' = c ∧ 0 ≤ r ∧ r < p + 1 then _ else _) else (if c' = c ∧ 0 ≤ r + 1 ∧ r + 1 < p + 1 then _ else _)) = (if c' = c ∧ 0 ≤ r ∧ r < p then _ else (if r < p then _ else _))
  by_cases h1 : r < p
  · rw [if_pos h1, if_pos h1]
    by_cases h2 : c' = c ∧ 0 ≤ r
    · rw [if_pos (by omega), if_pos (by omega)]
    · rw [if_neg (by omega), if_neg (by omega)]
  · rw [if_neg h1, if_neg h1, if_neg (by omega), if_neg (by omega)]
theorem mix_rem2 (h : 0 ≤ p) : tRem (mixT o c D p) p = mixT o c (tRem D p) p := by
  unfold tRem mixT
  congr 1
  funext r c'
  show (if r < p then (if c' = c ∧ 0 ≤ r ∧ r < p then _ else _) else (if c' = c ∧ 0 ≤ r + 1 ∧ r + 1 < p then _ else _)) = (if c' = c ∧ 0 ≤ r ∧ r < p then _ else (if r < p then _ else _))
  by_cases h1 : r < p
  · rw [if_pos h1, if_pos h1]
  · rw [if_neg h1, if_neg h1, if_neg (by omega), if_neg (by omega)]
theorem mix_keep (h : 0 ≤ p) (he : D.2 p c = o.2 p c) : mixT o c D (p + 1) = mixT o c D p := by
  unfold mixT
  congr 1
  funext r c'
  by_cases h2 : c' = c ∧ 0 ≤ r ∧ r < p
  · rw [if_pos (by omega), if_pos h2]
  · rw [if_neg h2]
    by_cases h3 : c' = c ∧ r = p
    · obtain ⟨rfl, rfl⟩ := h3
      rw [if_pos (by omega), he]
    · rw [if_neg (by omega)]
theorem DW_0 (h : U.1 = o.1) : DW o U U c o.1 := ⟨⟨by omega, by omega⟩, fun _ _ _ => rfl, by unfold tDrop; rw [h]⟩
theorem DW_rem (h : DW o U D c (p + 1)) (h0 : 0 ≤ p) (hz : U.2 p c = 0) : DW o U (tRem D p) c p := by
  obtain ⟨⟨h1, h2⟩, h3, h4⟩ := h
  have e1 : (tRem D p).1 = D.1 - 1 := rfl
  refine ⟨⟨by omega, by omega⟩, fun r r0 r1 => ?_, ?_⟩
  · have e : (tRem D p).2 r c = if r < p then D.2 r c else D.2 (r + 1) c := rfl
    rw [e, if_pos r1]
    exact h3 r r0 (by omega)
  · rw [show (p + 1).toNat = p.toNat + 1 by omega, tDropN, show ((p.toNat : Nat) : Int) = p by omega, if_pos (by rw [h3 p h0 (by omega)]; exact hz)] at h4
    exact h4
theorem DW_keep (h : DW o U D c (p + 1)) (h0 : 0 ≤ p) (hz : U.2 p c ≠ 0) : DW o U D c p := by
  obtain ⟨⟨h1, h2⟩, h3, h4⟩ := h
  refine ⟨⟨by omega, by omega⟩, fun r r0 r1 => h3 r r0 (by omega), ?_⟩
  rw [show (p + 1).toNat = p.toNat + 1 by omega, tDropN, show ((p.toNat : Nat) : Int) = p by omega, if_neg (by rw [h3 p h0 (by omega)]; exact hz)] at h4
  exact h4
theorem DW_end (h : DW o U D c 0) : D = tDrop U c := h.2.2
theorem BM_put34 {s s' : Int → Int} (h : BM s (bSet b 3 o)) (h0 : 0 ≤ r) (h1 : r < o.1) (hv : s' (93 + 5 * r + 4) = v) (hf : ∀ i, i ≠ 93 + 5 * r + 4 → s' i = s i) : BM s' (bSet b 3 (tPut o r 4 v)) := by
  have eT : bSet b 3 o 3 = o := bSet_eq
  have sT := bm_s3 h
  rw [eT] at sT
  have := BM_set3 h (s' := s') (T := tPut o r 4 v) (by rw [hf 92 (by omega), bm_n3 h, eT]; rfl) (by show 0 ≤ o.1 ∧ o.1 ≤ 24; omega) (fun r' c r0 r1 c0 c1 => by
    have r1' : r' < o.1 := r1
    have ee : (tPut o r 4 v).2 r' c = if r' = r ∧ c = 4 then v else o.2 r' c := rfl
    rw [ee]
    by_cases h1 : r' = r ∧ c = 4
    · rw [if_pos h1, ← hv]
      congr 1
      omega
    · rw [if_neg h1, hf _ (by omega)]
      have := bm_3 h r0 (by rw [eT]; exact r1') c0 c1
      rw [eT] at this
      rw [← this]
      congr 1
      omega) (Zo_put (by have := BM_z3 h; rw [eT] at this; exact this) ⟨h0, h1⟩ (by omega)) (fun i hi h' => hf i (by omega))
  rw [bSet_bSet] at this
  exact this
set_option maxHeartbeats 1000000 in
theorem m_weighs [NeZero (z % 2)] (hb : BM (m 214) b) (hQ : WfQ b) (h0 : 1 ≤ x) (h1 : x ≤ 300) (hk : ∀ m', (∀ a, a ≠ 214 → m' a = m a) → BM (m' 214) (bScale b x) → K none (w0 L z X Y) m') : C (d + 3) M_X8_weighs [(2, 213), (1, x)] (w0 L z X Y) m K := by
  have s3 := bm_s3 hb
  have n3 := bm_n3 hb
  have hU1 : (scT (b 3) x (b 3).1).1 = (b 3).1 := rfl
  have hU : ∀ r, 0 ≤ r → r < (b 3).1 → (scT (b 3) x (b 3).1).2 r 4 = td ((b 3).2 r 4 * x) 100 := fun r r0 r1 => if_pos ⟨rfl, r0, r1⟩
  have hmx : mixT (b 3) 4 (scT (b 3) x (b 3).1) (b 3).1 = b 3 := by
    refine Prod.ext rfl ?_
    funext r c'
    show (if c' = 4 ∧ 0 ≤ r ∧ r < (b 3).1 then _ else (if c' = 4 ∧ 0 ≤ r ∧ r < (b 3).1 then _ else _)) = _
    by_cases h : c' = 4 ∧ 0 ≤ r ∧ r < (b 3).1
    · rw [if_pos h, h.1]
    · rw [if_neg h, if_neg h]
  have hres : bScale b x = bSet b 3 (tDrop (scT (b 3) x (b 3).1) 4) := rfl
  simp (disch := first | assumption | omega | ((simp (disch := omega) only [gU_row, mis_row, gU_same, gU_i, mis_i, gCp_row]); first | assumption | omega)) only [e_X8_weighs, s_X8_weighs_0, s_X8_weighs_1, s_X8_weighs_4, s_X8_weighs_6, s_X8_weighs_7, s_X8_weighs_8, s_X8_weighs_9, s_X8_weighs_10, s_X8_weighs_12, s_X8_weighs_15, s_X8_weighs_16, s_X8_weighs_19, s_X8_weighs_21, s_X8_weighs_22, s_X8_weighs_23, s_X8_weighs_24, s_X8_weighs_25, s_X8_weighs_26, s_X8_weighs_27, s_X8_weighs_28, s_X8_weighs_29, s_X8_weighs_30, s_X8_weighs_33, s_X8_weighs_34, s_X8_weighs_35, s_X8_weighs_38, s_X8_weighs_39, s_X8_weighs_40, s_X8_weighs_41, s_X8_weighs_42, s_X8_weighs_43, s_X8_weighs_46, s_X8_weighs_47, s_X8_weighs_48, s_X8_weighs_51, s_X8_weighs_52, s_X8_weighs_54, s_X8_weighs_56, s_X8_weighs_57, s_X8_weighs_58, s_X8_weighs_64, s_X8_weighs_67, ↓reduceIte, Option.toList_some, Option.toList_none, List.cons_append, List.nil_append, List.singleton_append, List.append_nil, true_and, and_true, true_or, or_true, andT, iteT, iteF, itT, itF, zS_213, zP_213_0, zP_213_1, zP_213_2, zP_213_3, zP_213_6, zP_213_7, zP_213_8, zP_213_9, zP_213_10, zP_213_11, zP_213_12, zP_213_13, zP_213_14, zP_213_15, zP_213_16, zP_213_17, zP_213_18, zP_213_19, zP_213_20, zP_213_21, zP_213_22, zP_213_23, zP_213_24, zP_213_32, zP_213_33, zP_213_34, zP_213_38, zP_213_39, zP_213_40, zP_213_41, zS_214, zS_215, zS_216, zS_217, zS_218, zS_219, zS_220, zS_221, zS_222, zS_223, zS_224, zS_225, zS_226, zS_227, zS_228, zS_229, zS_230, zS_231, zS_232, zS_233, zS_234, zS_235, zS_236, zS_237, zS_238, zS_239, zS_240, zS_241, zS_242, zS_243, isIn_T, isIn_F, mGround_T, mGround_F, ne_eq, not_true_eq_false, not_false_eq_true, n3, l2i_ok, isub_ok]
  generalize scT (b 3) x (b 3).1 = U at *
  refine R_for0 (b 3).1.toNat (fun i ls m' => ls = [(2, 213), (1, x), (3, 0), (0, (b 3).1 - 1 - i)] ∧ (∀ a, a ≠ 214 → m' a = m a) ∧ ∃ D, DW (b 3) U D 4 ((b 3).1 - i) ∧ BM (m' 214) (bSet b 3 (mixT (b 3) 4 D ((b 3).1 - i)))) ⟨by simp, fun _ _ => rfl, U, by rw [show (b 3).1 - ((0 : Nat) : Int) = (b 3).1 by omega]; exact DW_0 hU1, by rw [show (b 3).1 - ((0 : Nat) : Int) = (b 3).1 by omega, hmx, bSet_self]; exact hb⟩ ?_ ?_
  · rintro i ls m1 hi ⟨rfl, f1, D, dw, g1⟩ hn
    have ek : (b 3).1 - (i : Int) = ((b 3).1 - 1 - i) + 1 := by omega
    have ek2 : (b 3).1 - ((i + 1 : Nat) : Int) = (b 3).1 - 1 - i := by omega
    rw [ek] at dw g1
    generalize hp : (b 3).1 - 1 - (i : Int) = p at *
    have p0 : 0 ≤ p := by omega
    have eT : bSet b 3 (mixT (b 3) 4 D (p + 1)) 3 = mixT (b 3) 4 D (p + 1) := bSet_eq
    have e1 : (mixT (b 3) 4 D (p + 1)).1 = D.1 := rfl
    have e4 : (mixT (b 3) 4 D (p + 1)).2 p 4 = (b 3).2 p 4 := if_pos ⟨rfl, p0, by omega⟩
    have qb := hQ p p0 (by omega)
    have bd := mul_bd (a := (b 3).2 p 4) (b := x) 2147483648 300 (by omega) (by omega) (by omega) (by omega)
    have el : ∀ K', C (d + 2) M_X8_leg [(2, 213), (0, p), (0, 4)] (w0 L z X Y) m1 K' = K' (some (1, (b 3).2 p 4)) (w0 L z X Y) m1 := fun K' => by
      rw [m_leg g1 p0 (by rw [eT, e1]; have := dw.1.1; omega) (by omega) (by omega), eT, e4]
    rw [s_X8_weighs_11]
    simp (disch := first | assumption | omega | ((simp (disch := omega) only [gU_row, mis_row, gU_same, gU_i, mis_i, gCp_row]); first | assumption | omega)) only [e_X8_weighs, s_X8_weighs_0, s_X8_weighs_1, s_X8_weighs_4, s_X8_weighs_6, s_X8_weighs_7, s_X8_weighs_8, s_X8_weighs_9, s_X8_weighs_10, s_X8_weighs_12, s_X8_weighs_15, s_X8_weighs_16, s_X8_weighs_19, s_X8_weighs_21, s_X8_weighs_22, s_X8_weighs_23, s_X8_weighs_24, s_X8_weighs_25, s_X8_weighs_26, s_X8_weighs_27, s_X8_weighs_28, s_X8_weighs_29, s_X8_weighs_30, s_X8_weighs_33, s_X8_weighs_34, s_X8_weighs_35, s_X8_weighs_38, s_X8_weighs_39, s_X8_weighs_40, s_X8_weighs_41, s_X8_weighs_42, s_X8_weighs_43, s_X8_weighs_46, s_X8_weighs_47, s_X8_weighs_48, s_X8_weighs_51, s_X8_weighs_52, s_X8_weighs_54, s_X8_weighs_56, s_X8_weighs_57, s_X8_weighs_58, s_X8_weighs_64, s_X8_weighs_67, ↓reduceIte, Option.toList_some, Option.toList_none, List.cons_append, List.nil_append, List.singleton_append, List.append_nil, true_and, and_true, true_or, or_true, andT, iteT, iteF, itT, itF, zS_213, zP_213_0, zP_213_1, zP_213_2, zP_213_3, zP_213_6, zP_213_7, zP_213_8, zP_213_9, zP_213_10, zP_213_11, zP_213_12, zP_213_13, zP_213_14, zP_213_15, zP_213_16, zP_213_17, zP_213_18, zP_213_19, zP_213_20, zP_213_21, zP_213_22, zP_213_23, zP_213_24, zP_213_32, zP_213_33, zP_213_34, zP_213_38, zP_213_39, zP_213_40, zP_213_41, zS_214, zS_215, zS_216, zS_217, zS_218, zS_219, zS_220, zS_221, zS_222, zS_223, zS_224, zS_225, zS_226, zS_227, zS_228, zS_229, zS_230, zS_231, zS_232, zS_233, zS_234, zS_235, zS_236, zS_237, zS_238, zS_239, zS_240, zS_241, zS_242, zS_243, isIn_T, isIn_F, mGround_T, mGround_F, ne_eq, not_true_eq_false, not_false_eq_true, imul_ok, iadd_ok, el, lmul_ok, ldiv_lit]
    rw [← hU p p0 (by omega), ← dw.2.1 p p0 (by omega)]
    generalize hM : gU m1 214 (93 + 5 * p + 4) (D.2 p 4) = m2 at *
    have f2 : ∀ a, a ≠ 214 → m2 a = m a := fun a ha => by rw [← hM, gU_row ha, f1 a ha]
    have g2 : BM (m2 214) (bSet b 3 (mixT (b 3) 4 D p)) := by
      rw [← mix_put p0]
      exact BM_put34 g1 p0 (by rw [e1]; have := dw.1.1; omega) (by rw [← hM, gU_same]) (fun j hj => by rw [← hM, gU_i hj])
    have eT2 : bSet b 3 (mixT (b 3) 4 D p) 3 = mixT (b 3) 4 D p := bSet_eq
    have e12 : (mixT (b 3) 4 D p).1 = D.1 := rfl
    have e42 : (mixT (b 3) 4 D p).2 p 4 = D.2 p 4 := if_neg (by omega)
    rw [m_leg g2 p0 (by rw [eT2, e12]; have := dw.1.1; omega) (by omega) (by omega), eT2, e42]
    have eD := dw.2.1 p p0 (by omega)
    by_cases hz : D.2 p 4 = 0
    · simp (disch := first | assumption | omega | ((simp (disch := omega) only [gU_row, mis_row, gU_same, gU_i, mis_i, gCp_row]); first | assumption | omega)) only [e_X8_weighs, s_X8_weighs_0, s_X8_weighs_1, s_X8_weighs_4, s_X8_weighs_6, s_X8_weighs_7, s_X8_weighs_8, s_X8_weighs_9, s_X8_weighs_10, s_X8_weighs_12, s_X8_weighs_15, s_X8_weighs_16, s_X8_weighs_19, s_X8_weighs_21, s_X8_weighs_22, s_X8_weighs_23, s_X8_weighs_24, s_X8_weighs_25, s_X8_weighs_26, s_X8_weighs_27, s_X8_weighs_28, s_X8_weighs_29, s_X8_weighs_30, s_X8_weighs_33, s_X8_weighs_34, s_X8_weighs_35, s_X8_weighs_38, s_X8_weighs_39, s_X8_weighs_40, s_X8_weighs_41, s_X8_weighs_42, s_X8_weighs_43, s_X8_weighs_46, s_X8_weighs_47, s_X8_weighs_48, s_X8_weighs_51, s_X8_weighs_52, s_X8_weighs_54, s_X8_weighs_56, s_X8_weighs_57, s_X8_weighs_58, s_X8_weighs_64, s_X8_weighs_67, ↓reduceIte, Option.toList_some, Option.toList_none, List.cons_append, List.nil_append, List.singleton_append, List.append_nil, true_and, and_true, true_or, or_true, andT, iteT, iteF, itT, itF, zS_213, zP_213_0, zP_213_1, zP_213_2, zP_213_3, zP_213_6, zP_213_7, zP_213_8, zP_213_9, zP_213_10, zP_213_11, zP_213_12, zP_213_13, zP_213_14, zP_213_15, zP_213_16, zP_213_17, zP_213_18, zP_213_19, zP_213_20, zP_213_21, zP_213_22, zP_213_23, zP_213_24, zP_213_32, zP_213_33, zP_213_34, zP_213_38, zP_213_39, zP_213_40, zP_213_41, zS_214, zS_215, zS_216, zS_217, zS_218, zS_219, zS_220, zS_221, zS_222, zS_223, zS_224, zS_225, zS_226, zS_227, zS_228, zS_229, zS_230, zS_231, zS_232, zS_233, zS_234, zS_235, zS_236, zS_237, zS_238, zS_239, zS_240, zS_241, zS_242, zS_243, isIn_T, isIn_F, mGround_T, mGround_F, ne_eq, not_true_eq_false, not_false_eq_true, lcmp_eq, hz, imul_ok, iadd_ok]
      refine m_leaves3 g2 p0 (by rw [eT2, e12]; have := dw.1.1; omega) (fun m3 f3 g3 => ?_)
      rw [bSet_bSet, eT2, mix_rem2 p0] at g3
      simp (disch := first | assumption | omega | ((simp (disch := omega) only [gU_row, mis_row, gU_same, gU_i, mis_i, gCp_row]); first | assumption | omega)) only [e_X8_weighs, s_X8_weighs_0, s_X8_weighs_1, s_X8_weighs_4, s_X8_weighs_6, s_X8_weighs_7, s_X8_weighs_8, s_X8_weighs_9, s_X8_weighs_10, s_X8_weighs_12, s_X8_weighs_15, s_X8_weighs_16, s_X8_weighs_19, s_X8_weighs_21, s_X8_weighs_22, s_X8_weighs_23, s_X8_weighs_24, s_X8_weighs_25, s_X8_weighs_26, s_X8_weighs_27, s_X8_weighs_28, s_X8_weighs_29, s_X8_weighs_30, s_X8_weighs_33, s_X8_weighs_34, s_X8_weighs_35, s_X8_weighs_38, s_X8_weighs_39, s_X8_weighs_40, s_X8_weighs_41, s_X8_weighs_42, s_X8_weighs_43, s_X8_weighs_46, s_X8_weighs_47, s_X8_weighs_48, s_X8_weighs_51, s_X8_weighs_52, s_X8_weighs_54, s_X8_weighs_56, s_X8_weighs_57, s_X8_weighs_58, s_X8_weighs_64, s_X8_weighs_67, ↓reduceIte, Option.toList_some, Option.toList_none, List.cons_append, List.nil_append, List.singleton_append, List.append_nil, true_and, and_true, true_or, or_true, andT, iteT, iteF, itT, itF, zS_213, zP_213_0, zP_213_1, zP_213_2, zP_213_3, zP_213_6, zP_213_7, zP_213_8, zP_213_9, zP_213_10, zP_213_11, zP_213_12, zP_213_13, zP_213_14, zP_213_15, zP_213_16, zP_213_17, zP_213_18, zP_213_19, zP_213_20, zP_213_21, zP_213_22, zP_213_23, zP_213_24, zP_213_32, zP_213_33, zP_213_34, zP_213_38, zP_213_39, zP_213_40, zP_213_41, zS_214, zS_215, zS_216, zS_217, zS_218, zS_219, zS_220, zS_221, zS_222, zS_223, zS_224, zS_225, zS_226, zS_227, zS_228, zS_229, zS_230, zS_231, zS_232, zS_233, zS_234, zS_235, zS_236, zS_237, zS_238, zS_239, zS_240, zS_241, zS_242, zS_243, isIn_T, isIn_F, mGround_T, mGround_F, ne_eq, not_true_eq_false, not_false_eq_true, iadd_ok]
      rw [s_X8_weighs_61]
      simp (disch := first | assumption | omega | ((simp (disch := omega) only [gU_row, mis_row, gU_same, gU_i, mis_i, gCp_row]); first | assumption | omega)) only [e_X8_weighs, s_X8_weighs_0, s_X8_weighs_1, s_X8_weighs_4, s_X8_weighs_6, s_X8_weighs_7, s_X8_weighs_8, s_X8_weighs_9, s_X8_weighs_10, s_X8_weighs_12, s_X8_weighs_15, s_X8_weighs_16, s_X8_weighs_19, s_X8_weighs_21, s_X8_weighs_22, s_X8_weighs_23, s_X8_weighs_24, s_X8_weighs_25, s_X8_weighs_26, s_X8_weighs_27, s_X8_weighs_28, s_X8_weighs_29, s_X8_weighs_30, s_X8_weighs_33, s_X8_weighs_34, s_X8_weighs_35, s_X8_weighs_38, s_X8_weighs_39, s_X8_weighs_40, s_X8_weighs_41, s_X8_weighs_42, s_X8_weighs_43, s_X8_weighs_46, s_X8_weighs_47, s_X8_weighs_48, s_X8_weighs_51, s_X8_weighs_52, s_X8_weighs_54, s_X8_weighs_56, s_X8_weighs_57, s_X8_weighs_58, s_X8_weighs_64, s_X8_weighs_67, ↓reduceIte, Option.toList_some, Option.toList_none, List.cons_append, List.nil_append, List.singleton_append, List.append_nil, true_and, and_true, true_or, or_true, andT, iteT, iteF, itT, itF, zS_213, zP_213_0, zP_213_1, zP_213_2, zP_213_3, zP_213_6, zP_213_7, zP_213_8, zP_213_9, zP_213_10, zP_213_11, zP_213_12, zP_213_13, zP_213_14, zP_213_15, zP_213_16, zP_213_17, zP_213_18, zP_213_19, zP_213_20, zP_213_21, zP_213_22, zP_213_23, zP_213_24, zP_213_32, zP_213_33, zP_213_34, zP_213_38, zP_213_39, zP_213_40, zP_213_41, zS_214, zS_215, zS_216, zS_217, zS_218, zS_219, zS_220, zS_221, zS_222, zS_223, zS_224, zS_225, zS_226, zS_227, zS_228, zS_229, zS_230, zS_231, zS_232, zS_233, zS_234, zS_235, zS_236, zS_237, zS_238, zS_239, zS_240, zS_241, zS_242, zS_243, isIn_T, isIn_F, mGround_T, mGround_F, ne_eq, not_true_eq_false, not_false_eq_true, iadd_ok]
      refine hn _ _ ⟨by congr 5; omega, fun a ha => by rw [f3 a ha, f2 a ha], tRem D p, ?_, ?_⟩
      · rw [ek2]
        exact DW_rem dw p0 (by rw [← eD]; exact hz)
      · rw [ek2]
        exact g3
    · simp (disch := first | assumption | omega | ((simp (disch := omega) only [gU_row, mis_row, gU_same, gU_i, mis_i, gCp_row]); first | assumption | omega)) only [e_X8_weighs, s_X8_weighs_0, s_X8_weighs_1, s_X8_weighs_4, s_X8_weighs_6, s_X8_weighs_7, s_X8_weighs_8, s_X8_weighs_9, s_X8_weighs_10, s_X8_weighs_12, s_X8_weighs_15, s_X8_weighs_16, s_X8_weighs_19, s_X8_weighs_21, s_X8_weighs_22, s_X8_weighs_23, s_X8_weighs_24, s_X8_weighs_25, s_X8_weighs_26, s_X8_weighs_27, s_X8_weighs_28, s_X8_weighs_29, s_X8_weighs_30, s_X8_weighs_33, s_X8_weighs_34, s_X8_weighs_35, s_X8_weighs_38, s_X8_weighs_39, s_X8_weighs_40, s_X8_weighs_41, s_X8_weighs_42, s_X8_weighs_43, s_X8_weighs_46, s_X8_weighs_47, s_X8_weighs_48, s_X8_weighs_51, s_X8_weighs_52, s_X8_weighs_54, s_X8_weighs_56, s_X8_weighs_57, s_X8_weighs_58, s_X8_weighs_64, s_X8_weighs_67, ↓reduceIte, Option.toList_some, Option.toList_none, List.cons_append, List.nil_append, List.singleton_append, List.append_nil, true_and, and_true, true_or, or_true, andT, iteT, iteF, itT, itF, zS_213, zP_213_0, zP_213_1, zP_213_2, zP_213_3, zP_213_6, zP_213_7, zP_213_8, zP_213_9, zP_213_10, zP_213_11, zP_213_12, zP_213_13, zP_213_14, zP_213_15, zP_213_16, zP_213_17, zP_213_18, zP_213_19, zP_213_20, zP_213_21, zP_213_22, zP_213_23, zP_213_24, zP_213_32, zP_213_33, zP_213_34, zP_213_38, zP_213_39, zP_213_40, zP_213_41, zS_214, zS_215, zS_216, zS_217, zS_218, zS_219, zS_220, zS_221, zS_222, zS_223, zS_224, zS_225, zS_226, zS_227, zS_228, zS_229, zS_230, zS_231, zS_232, zS_233, zS_234, zS_235, zS_236, zS_237, zS_238, zS_239, zS_240, zS_241, zS_242, zS_243, isIn_T, isIn_F, mGround_T, mGround_F, ne_eq, not_true_eq_false, not_false_eq_true, lcmp_eq, hz, imul_ok, iadd_ok]
      rw [s_X8_weighs_61]
      simp (disch := first | assumption | omega | ((simp (disch := omega) only [gU_row, mis_row, gU_same, gU_i, mis_i, gCp_row]); first | assumption | omega)) only [e_X8_weighs, s_X8_weighs_0, s_X8_weighs_1, s_X8_weighs_4, s_X8_weighs_6, s_X8_weighs_7, s_X8_weighs_8, s_X8_weighs_9, s_X8_weighs_10, s_X8_weighs_12, s_X8_weighs_15, s_X8_weighs_16, s_X8_weighs_19, s_X8_weighs_21, s_X8_weighs_22, s_X8_weighs_23, s_X8_weighs_24, s_X8_weighs_25, s_X8_weighs_26, s_X8_weighs_27, s_X8_weighs_28, s_X8_weighs_29, s_X8_weighs_30, s_X8_weighs_33, s_X8_weighs_34, s_X8_weighs_35, s_X8_weighs_38, s_X8_weighs_39, s_X8_weighs_40, s_X8_weighs_41, s_X8_weighs_42, s_X8_weighs_43, s_X8_weighs_46, s_X8_weighs_47, s_X8_weighs_48, s_X8_weighs_51, s_X8_weighs_52, s_X8_weighs_54, s_X8_weighs_56, s_X8_weighs_57, s_X8_weighs_58, s_X8_weighs_64, s_X8_weighs_67, ↓reduceIte, Option.toList_some, Option.toList_none, List.cons_append, List.nil_append, List.singleton_append, List.append_nil, true_and, and_true, true_or, or_true, andT, iteT, iteF, itT, itF, zS_213, zP_213_0, zP_213_1, zP_213_2, zP_213_3, zP_213_6, zP_213_7, zP_213_8, zP_213_9, zP_213_10, zP_213_11, zP_213_12, zP_213_13, zP_213_14, zP_213_15, zP_213_16, zP_213_17, zP_213_18, zP_213_19, zP_213_20, zP_213_21, zP_213_22, zP_213_23, zP_213_24, zP_213_32, zP_213_33, zP_213_34, zP_213_38, zP_213_39, zP_213_40, zP_213_41, zS_214, zS_215, zS_216, zS_217, zS_218, zS_219, zS_220, zS_221, zS_222, zS_223, zS_224, zS_225, zS_226, zS_227, zS_228, zS_229, zS_230, zS_231, zS_232, zS_233, zS_234, zS_235, zS_236, zS_237, zS_238, zS_239, zS_240, zS_241, zS_242, zS_243, isIn_T, isIn_F, mGround_T, mGround_F, ne_eq, not_true_eq_false, not_false_eq_true, iadd_ok]
      refine hn _ _ ⟨by congr 5; omega, f2, D, ?_, ?_⟩
      · rw [ek2]
        exact DW_keep dw p0 (by rw [← eD]; exact hz)
      · rw [ek2]
        exact g2
  · rintro ls m1 ⟨rfl, f1, D, dw, g1⟩
    rw [show (b 3).1 - (((b 3).1.toNat : Nat) : Int) = 0 by omega] at dw g1
    rw [mix_0, DW_end dw, ← hres] at g1
    rw [s_X8_weighs_11]
    simp (disch := first | assumption | omega | ((simp (disch := omega) only [gU_row, mis_row, gU_same, gU_i, mis_i, gCp_row]); first | assumption | omega)) only [e_X8_weighs, s_X8_weighs_0, s_X8_weighs_1, s_X8_weighs_4, s_X8_weighs_6, s_X8_weighs_7, s_X8_weighs_8, s_X8_weighs_9, s_X8_weighs_10, s_X8_weighs_12, s_X8_weighs_15, s_X8_weighs_16, s_X8_weighs_19, s_X8_weighs_21, s_X8_weighs_22, s_X8_weighs_23, s_X8_weighs_24, s_X8_weighs_25, s_X8_weighs_26, s_X8_weighs_27, s_X8_weighs_28, s_X8_weighs_29, s_X8_weighs_30, s_X8_weighs_33, s_X8_weighs_34, s_X8_weighs_35, s_X8_weighs_38, s_X8_weighs_39, s_X8_weighs_40, s_X8_weighs_41, s_X8_weighs_42, s_X8_weighs_43, s_X8_weighs_46, s_X8_weighs_47, s_X8_weighs_48, s_X8_weighs_51, s_X8_weighs_52, s_X8_weighs_54, s_X8_weighs_56, s_X8_weighs_57, s_X8_weighs_58, s_X8_weighs_64, s_X8_weighs_67, ↓reduceIte, Option.toList_some, Option.toList_none, List.cons_append, List.nil_append, List.singleton_append, List.append_nil, true_and, and_true, true_or, or_true, andT, iteT, iteF, itT, itF, zS_213, zP_213_0, zP_213_1, zP_213_2, zP_213_3, zP_213_6, zP_213_7, zP_213_8, zP_213_9, zP_213_10, zP_213_11, zP_213_12, zP_213_13, zP_213_14, zP_213_15, zP_213_16, zP_213_17, zP_213_18, zP_213_19, zP_213_20, zP_213_21, zP_213_22, zP_213_23, zP_213_24, zP_213_32, zP_213_33, zP_213_34, zP_213_38, zP_213_39, zP_213_40, zP_213_41, zS_214, zS_215, zS_216, zS_217, zS_218, zS_219, zS_220, zS_221, zS_222, zS_223, zS_224, zS_225, zS_226, zS_227, zS_228, zS_229, zS_230, zS_231, zS_232, zS_233, zS_234, zS_235, zS_236, zS_237, zS_238, zS_239, zS_240, zS_241, zS_242, zS_243, isIn_T, isIn_F, mGround_T, mGround_F, ne_eq, not_true_eq_false, not_false_eq_true, iadd_ok]
    exact hk m1 f1 g1
end MIX
