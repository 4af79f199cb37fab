/-! THE BOOK's methods, third part: scale, follow; the Gauge. -/
def lst : List Int := [1, 0, 1, 0, 0, 0]
def mst : List Int := [999, 99, 1000000, 99, 99, 99]
def shT (T : Tb) (c v : Int) (n : Int) : Tb := (T.1, fun g c' => if c' = c ∧ 0 ≤ g ∧ g < n then max (lk lst c) (min (T.2 g c + v) (lk mst c)) else T.2 g c')
def bShift (b : Bk) (c v : Int) : Bk := bSet b 0 (shT (b 0) c v 5)
def scT (T : Tb) (w n : Int) : Tb := (T.1, fun l c => if c = 4 ∧ 0 ≤ l ∧ l < n then td (T.2 l 4 * w) 100 else T.2 l c)
def OkS (b : Bk) (w : Int) : Prop := ∀ l, 0 ≤ l → l < (b 3).1 → okI (td ((b 3).2 l 4 * w) 100)
def bScale (b : Bk) (w : Int) : Bk := bSet b 3 (tDrop (scT (b 3) w (b 3).1) 4)
def bMark (b : Bk) (t : Nat) (c v : Int) : Bk := if 0 ≤ v ∧ v < (b t).1 then bSet b t (tPut (b t) v c 0) else b
def fStep (b0 : Bk) (r : Int) (b : Bk) : Bk := if (b0 5).2 r 0 = 0 then bShift b 0 ((b0 5).2 r 1) else if (b0 5).2 r 0 = 1 then bShift b 1 ((b0 5).2 r 1) else if (b0 5).2 r 0 = 2 then bMark b 3 4 ((b0 5).2 r 1) else bMark b 1 2 ((b0 5).2 r 1)
def fAll (b : Bk) : Bk := it (fStep b) b (b 5).1.toNat
def bDrop (b : Bk) : Bk := bSet (bSet b 3 (tDrop (b 3) 4)) 1 (tDrop (b 1) 2)
def bFollow (b : Bk) : Bk := bDrop (fAll b)
def WfP (b : Bk) : Prop := ∀ r, 0 ≤ r → r < (b 5).1 → (0 ≤ (b 5).2 r 0 ∧ (b 5).2 r 0 ≤ 3) ∧ ((b 5).2 r 0 ≤ 1 → -999 ≤ (b 5).2 r 1 ∧ (b 5).2 r 1 ≤ 999)
theorem shT_s {T : Tb} {c v n : Int} (h : 0 ≤ n) : shT T c v (n + 1) = tPut (shT T c v n) n c (max (lk lst c) (min (T.2 n c + v) (lk mst c))) := by
  unfold shT tPut
  congr 1
  funext g c'
  show (if _ then _ else _) = (if _ then _ else (if _ then _ else _))
  by_cases h1 : g = n ∧ c' = c
  · rw [if_pos h1, if_pos ⟨h1.2, by omega, by omega⟩, h1.1]
  · rw [if_neg h1]
    by_cases h2 : c' = c ∧ 0 ≤ g ∧ g < n
    · rw [if_pos h2, if_pos ⟨h2.1, by omega, by omega⟩]
    · rw [if_neg h2, if_neg (by omega)]
theorem shT_0 {T : Tb} {c v : Int} : shT T c v 0 = T := by
  unfold shT
  have : (fun g c' => if c' = c ∧ 0 ≤ g ∧ g < 0 then max (lk lst c) (min (T.2 g c + v) (lk mst c)) else T.2 g c') = T.2 := by
    funext g c'
    rw [if_neg (by omega)]
  rw [this]
theorem scT_s {T : Tb} {w n : Int} (h : 0 ≤ n) : scT T w (n + 1) = tPut (scT T w n) n 4 (td (T.2 n 4 * w) 100) := by
  unfold scT tPut
  congr 1
  funext l c
  show (if _ then _ else _) = (if _ then _ else (if _ then _ else _))
  by_cases h1 : l = n ∧ c = 4
  · rw [if_pos h1, if_pos ⟨h1.2, by omega, by omega⟩, h1.1]
  · rw [if_neg h1]
    by_cases h2 : c = 4 ∧ 0 ≤ l ∧ l < n
    · rw [if_pos h2, if_pos ⟨h2.1, by omega, by omega⟩]
    · rw [if_neg h2, if_neg (by omega)]
theorem scT_0 {T : Tb} {w : Int} : scT T w 0 = T := by
  unfold scT
  have : (fun l c => if c = 4 ∧ 0 ≤ l ∧ l < 0 then td (T.2 l 4 * w) 100 else T.2 l c) = T.2 := by
    funext l c
    rw [if_neg (by omega)]
  rw [this]
theorem WfG_shift {b : Bk} {c v : Int} (h : WfG b) (hc : c = 0 ∨ c = 1) : WfG (bShift b c v) := by
  intro g h0 h1
  have a := h g h0 h1
  have e0 : lk lst 0 = 1 ∧ lk mst 0 = 999 ∧ lk lst 1 = 0 ∧ lk mst 1 = 99 := ⟨rfl, rfl, rfl, rfl⟩
  have e : ∀ c', (bShift b c v 0).2 g c' = if c' = c ∧ 0 ≤ g ∧ g < 5 then max (lk lst c) (min ((b 0).2 g c + v) (lk mst c)) else (b 0).2 g c' := fun c' => rfl
  rw [e, e, e, e, e, e]
  rcases hc with rfl | rfl
  · rw [if_pos (by omega), if_neg (by omega), if_neg (by omega), if_neg (by omega), if_neg (by omega), if_neg (by omega)]
    omega
  · rw [if_neg (by omega), if_pos (by omega), if_neg (by omega), if_neg (by omega), if_neg (by omega), if_neg (by omega)]
    omega
theorem bMark_ne {b : Bk} {t t' : Nat} {c v : Int} (h : t' ≠ t) : bMark b t c v t' = b t' := by
  unfold bMark
  split
  · exact bSet_ne h
  · rfl
theorem fStep_G {b0 b : Bk} {r : Int} (h : WfG b) : WfG (fStep b0 r b) := by
  unfold fStep
  split
  · exact WfG_shift h (Or.inl rfl)
  · split
    · exact WfG_shift h (Or.inr rfl)
    · split
      · intro g; rw [bMark_ne (by omega)]; exact h g
      · intro g; rw [bMark_ne (by omega)]; exact h g
theorem fStep_5 {b0 b : Bk} {r : Int} : (fStep b0 r b) 5 = b 5 := by
  unfold fStep
  split
  · rfl
  · split
    · rfl
    · split
      · exact bMark_ne (by omega)
      · exact bMark_ne (by omega)
def fitv (v : Int) : Int := if -2147483648 ≤ v ∧ v ≤ 2147483647 then v else 0
def fitm (m : gM) (a v : Int) : gM := if -2147483648 ≤ v ∧ v ≤ 2147483647 then m else gU m a 0 1
section BOOK3
variable {L d N : Nat} {z X Y q q' x y v t c n g j k e s : Int} {w : gW} {m : gM} {K : Option gV → gW → gM → Prop} {b b' : Bk} {xs : Int → Int}
theorem Fr_st {lo hi : Int} {m' : gM} (hs : St xs m) (hf : Fr lo hi m m') (h0 : 0 ≤ lo) : St xs m' := St_fr hs hf h0
theorem BB_0 (hq : BB q) : 2 ≤ q := by rcases hq with h | h | h <;> omega
set_option maxHeartbeats 400000 in
theorem c_shift (hq : BB q) (hb : BK m q b) (hs : St xs m) (hg : WfG b) (hc : c = 0 ∨ c = 1) (h0 : -999 ≤ v) (h1 : v ≤ 999) (hk : ∀ m', Fr (q + 2) (q + 2) m m' → BK m' q (bShift b c v) → K none (w0 L z X Y) m') : C (d + 2) M_X0_shiftGrounds [(2, q), (0, c), (0, v)] (w0 L z X Y) m K := by
  have hq2 := BB_0 hq
  have hb0 := BK_b0 hb
  simp (disch := first | assumption | omega | (simp (disch := omega) only [gU_row, gU_same, gU_i, gCp_row] <;> omega)) only [e_X0_shiftGrounds, s_X0_shiftGrounds_0, s_X0_shiftGrounds_1, s_X0_shiftGrounds_3, s_X0_shiftGrounds_4, s_X0_shiftGrounds_7, s_X0_shiftGrounds_8, s_X0_shiftGrounds_11, s_X0_shiftGrounds_12, s_X0_shiftGrounds_13, s_X0_shiftGrounds_16, s_X0_shiftGrounds_17, s_X0_shiftGrounds_18, s_X0_shiftGrounds_20, s_X0_shiftGrounds_21, s_X0_shiftGrounds_24, s_X0_shiftGrounds_25, s_X0_shiftGrounds_26, s_X0_shiftGrounds_29, s_X0_shiftGrounds_30, s_X0_shiftGrounds_31, s_X0_shiftGrounds_33, s_X0_shiftGrounds_36, s_X0_shiftGrounds_37, s_X0_shiftGrounds_38, s_X0_shiftGrounds_41, s_X0_shiftGrounds_44, s_X0_shiftGrounds_47, s_X0_shiftGrounds_50, s_X0_shiftGrounds_53, ↓reduceIte, Option.toList_some, Option.toList_none, List.cons_append, List.nil_append, List.singleton_append, List.append_nil, true_and, and_true, true_or, or_true, andT, iteT, iteF, itT, itF]
  refine R_for0 5 (fun i ls m' => (∃ u, ls = [(2, q), (0, c), (0, v), (0, (i : Int)), u]) ∧ Fr (q + 2) (q + 2) m m' ∧ BK m' q (bSet b 0 (shT (b 0) c v i))) ⟨⟨_, rfl⟩, Fr_refl, by rw [show ((0 : Nat) : Int) = 0 from rfl, shT_0, bSet_self]; exact hb⟩ ?_ ?_
  · rintro i ls m' hi ⟨⟨u, rfl⟩, f1, f2⟩ hn
    have s1 := Fr_st hs f1 (by omega)
    have s4 := st4 s1
    have s5 := st5 s1
    have a := hg i (by omega) (by omega)
    have e1 : (bSet b 0 (shT (b 0) c v i) 0).1 = 5 := hb0
    have e2 : (bSet b 0 (shT (b 0) c v i) 0).2 i c = (b 0).2 i c := by
      show (if _ then _ else _) = _
      rw [if_neg (by omega)]
    rw [s_X0_shiftGrounds_2]
    rcases hc with rfl | rfl
    · have l1 : lk [1, 0, 1, 0, 0, 0] 0 = 1 := rfl
      have l2 : lk [999, 99, 1000000, 99, 99, 99] 0 = 999 := rfl
      simp (disch := first | assumption | omega | (simp (disch := omega) only [gU_row, gU_same, gU_i, gCp_row] <;> omega)) only [e_X0_shiftGrounds, s_X0_shiftGrounds_0, s_X0_shiftGrounds_1, s_X0_shiftGrounds_3, s_X0_shiftGrounds_4, s_X0_shiftGrounds_7, s_X0_shiftGrounds_8, s_X0_shiftGrounds_11, s_X0_shiftGrounds_12, s_X0_shiftGrounds_13, s_X0_shiftGrounds_16, s_X0_shiftGrounds_17, s_X0_shiftGrounds_18, s_X0_shiftGrounds_20, s_X0_shiftGrounds_21, s_X0_shiftGrounds_24, s_X0_shiftGrounds_25, s_X0_shiftGrounds_26, s_X0_shiftGrounds_29, s_X0_shiftGrounds_30, s_X0_shiftGrounds_31, s_X0_shiftGrounds_33, s_X0_shiftGrounds_36, s_X0_shiftGrounds_37, s_X0_shiftGrounds_38, s_X0_shiftGrounds_41, s_X0_shiftGrounds_47, s_X0_shiftGrounds_50, s_X0_shiftGrounds_53, ↓reduceIte, Option.toList_some, Option.toList_none, List.cons_append, List.nil_append, List.singleton_append, List.append_nil, true_and, and_true, true_or, or_true, andT, iteT, iteF, itT, itF, iadd_ok, isub_ok, imul_ok, imax_eq, imin_eq, iabs_ok, idiv_lit, td_nn, ne_eq, not_true_eq_false, not_false_eq_true, zS_b0 hq, zP_b0_0 hq, zP_b0_1 hq, zP_b0_2 hq, zP_b0_3 hq, zP_b0_4 hq, zP_b0_5 hq, zS_b1 hq, zS_b3 hq, zS_b5 hq, zS_b7 hq, zS_b9 hq, zS_b11 hq, at_0 hq f2, e2, zS_m4, zS_m5, s4, s5, l1, l2]
      rw [s_X0_shiftGrounds_44]
      simp (disch := first | assumption | omega | (simp (disch := omega) only [gU_row, gU_same, gU_i, gCp_row] <;> omega)) only [e_X0_shiftGrounds, s_X0_shiftGrounds_0, s_X0_shiftGrounds_1, s_X0_shiftGrounds_3, s_X0_shiftGrounds_4, s_X0_shiftGrounds_7, s_X0_shiftGrounds_8, s_X0_shiftGrounds_11, s_X0_shiftGrounds_12, s_X0_shiftGrounds_13, s_X0_shiftGrounds_16, s_X0_shiftGrounds_17, s_X0_shiftGrounds_18, s_X0_shiftGrounds_20, s_X0_shiftGrounds_21, s_X0_shiftGrounds_24, s_X0_shiftGrounds_25, s_X0_shiftGrounds_26, s_X0_shiftGrounds_29, s_X0_shiftGrounds_30, s_X0_shiftGrounds_31, s_X0_shiftGrounds_33, s_X0_shiftGrounds_36, s_X0_shiftGrounds_37, s_X0_shiftGrounds_38, s_X0_shiftGrounds_41, s_X0_shiftGrounds_47, s_X0_shiftGrounds_50, s_X0_shiftGrounds_53, ↓reduceIte, Option.toList_some, Option.toList_none, List.cons_append, List.nil_append, List.singleton_append, List.append_nil, true_and, and_true, true_or, or_true, andT, iteT, iteF, itT, itF, zS_b0 hq, zP_b0_0 hq, zP_b0_1 hq, zP_b0_2 hq, zP_b0_3 hq, zP_b0_4 hq, zP_b0_5 hq, zS_b1 hq, zS_b3 hq, zS_b5 hq, zS_b7 hq, zS_b9 hq, zS_b11 hq]
      refine put_0 hq f2 (by omega) (by omega) (by omega) (by omega) (fun m2 g1 g2 => ?_)
      simp (disch := first | assumption | omega | (simp (disch := omega) only [gU_row, gU_same, gU_i, gCp_row] <;> omega)) only [e_X0_shiftGrounds, s_X0_shiftGrounds_0, s_X0_shiftGrounds_1, s_X0_shiftGrounds_3, s_X0_shiftGrounds_4, s_X0_shiftGrounds_7, s_X0_shiftGrounds_8, s_X0_shiftGrounds_11, s_X0_shiftGrounds_12, s_X0_shiftGrounds_13, s_X0_shiftGrounds_16, s_X0_shiftGrounds_17, s_X0_shiftGrounds_18, s_X0_shiftGrounds_20, s_X0_shiftGrounds_21, s_X0_shiftGrounds_24, s_X0_shiftGrounds_25, s_X0_shiftGrounds_26, s_X0_shiftGrounds_29, s_X0_shiftGrounds_30, s_X0_shiftGrounds_31, s_X0_shiftGrounds_33, s_X0_shiftGrounds_36, s_X0_shiftGrounds_37, s_X0_shiftGrounds_38, s_X0_shiftGrounds_41, s_X0_shiftGrounds_47, s_X0_shiftGrounds_50, s_X0_shiftGrounds_53, ↓reduceIte, Option.toList_some, Option.toList_none, List.cons_append, List.nil_append, List.singleton_append, List.append_nil, true_and, and_true, true_or, or_true, andT, iteT, iteF, itT, itF, iadd_ok]
      refine hn _ _ ⟨⟨_, rfl⟩, Fr_trans f1 g1, ?_⟩
      rw [bSet_bSet, bSet_eq] at g2
      have es : ((i + 1 : Nat) : Int) = (i : Int) + 1 := by omega
      rw [es, shT_s (by omega)]
      exact g2
    · have l1 : lk [1, 0, 1, 0, 0, 0] 1 = 0 := rfl
      have l2 : lk [999, 99, 1000000, 99, 99, 99] 1 = 99 := rfl
      simp (disch := first | assumption | omega | (simp (disch := omega) only [gU_row, gU_same, gU_i, gCp_row] <;> omega)) only [e_X0_shiftGrounds, s_X0_shiftGrounds_0, s_X0_shiftGrounds_1, s_X0_shiftGrounds_3, s_X0_shiftGrounds_4, s_X0_shiftGrounds_7, s_X0_shiftGrounds_8, s_X0_shiftGrounds_11, s_X0_shiftGrounds_12, s_X0_shiftGrounds_13, s_X0_shiftGrounds_16, s_X0_shiftGrounds_17, s_X0_shiftGrounds_18, s_X0_shiftGrounds_20, s_X0_shiftGrounds_21, s_X0_shiftGrounds_24, s_X0_shiftGrounds_25, s_X0_shiftGrounds_26, s_X0_shiftGrounds_29, s_X0_shiftGrounds_30, s_X0_shiftGrounds_31, s_X0_shiftGrounds_33, s_X0_shiftGrounds_36, s_X0_shiftGrounds_37, s_X0_shiftGrounds_38, s_X0_shiftGrounds_41, s_X0_shiftGrounds_47, s_X0_shiftGrounds_50, s_X0_shiftGrounds_53, ↓reduceIte, Option.toList_some, Option.toList_none, List.cons_append, List.nil_append, List.singleton_append, List.append_nil, true_and, and_true, true_or, or_true, andT, iteT, iteF, itT, itF, iadd_ok, isub_ok, imul_ok, imax_eq, imin_eq, iabs_ok, idiv_lit, td_nn, ne_eq, not_true_eq_false, not_false_eq_true, zS_b0 hq, zP_b0_0 hq, zP_b0_1 hq, zP_b0_2 hq, zP_b0_3 hq, zP_b0_4 hq, zP_b0_5 hq, zS_b1 hq, zS_b3 hq, zS_b5 hq, zS_b7 hq, zS_b9 hq, zS_b11 hq, at_0 hq f2, e2, zS_m4, zS_m5, s4, s5, l1, l2]
      rw [s_X0_shiftGrounds_44]
      simp (disch := first | assumption | omega | (simp (disch := omega) only [gU_row, gU_same, gU_i, gCp_row] <;> omega)) only [e_X0_shiftGrounds, s_X0_shiftGrounds_0, s_X0_shiftGrounds_1, s_X0_shiftGrounds_3, s_X0_shiftGrounds_4, s_X0_shiftGrounds_7, s_X0_shiftGrounds_8, s_X0_shiftGrounds_11, s_X0_shiftGrounds_12, s_X0_shiftGrounds_13, s_X0_shiftGrounds_16, s_X0_shiftGrounds_17, s_X0_shiftGrounds_18, s_X0_shiftGrounds_20, s_X0_shiftGrounds_21, s_X0_shiftGrounds_24, s_X0_shiftGrounds_25, s_X0_shiftGrounds_26, s_X0_shiftGrounds_29, s_X0_shiftGrounds_30, s_X0_shiftGrounds_31, s_X0_shiftGrounds_33, s_X0_shiftGrounds_36, s_X0_shiftGrounds_37, s_X0_shiftGrounds_38, s_X0_shiftGrounds_41, s_X0_shiftGrounds_47, s_X0_shiftGrounds_50, s_X0_shiftGrounds_53, ↓reduceIte, Option.toList_some, Option.toList_none, List.cons_append, List.nil_append, List.singleton_append, List.append_nil, true_and, and_true, true_or, or_true, andT, iteT, iteF, itT, itF, zS_b0 hq, zP_b0_0 hq, zP_b0_1 hq, zP_b0_2 hq, zP_b0_3 hq, zP_b0_4 hq, zP_b0_5 hq, zS_b1 hq, zS_b3 hq, zS_b5 hq, zS_b7 hq, zS_b9 hq, zS_b11 hq]
      refine put_0 hq f2 (by omega) (by omega) (by omega) (by omega) (fun m2 g1 g2 => ?_)
      simp (disch := first | assumption | omega | (simp (disch := omega) only [gU_row, gU_same, gU_i, gCp_row] <;> omega)) only [e_X0_shiftGrounds, s_X0_shiftGrounds_0, s_X0_shiftGrounds_1, s_X0_shiftGrounds_3, s_X0_shiftGrounds_4, s_X0_shiftGrounds_7, s_X0_shiftGrounds_8, s_X0_shiftGrounds_11, s_X0_shiftGrounds_12, s_X0_shiftGrounds_13, s_X0_shiftGrounds_16, s_X0_shiftGrounds_17, s_X0_shiftGrounds_18, s_X0_shiftGrounds_20, s_X0_shiftGrounds_21, s_X0_shiftGrounds_24, s_X0_shiftGrounds_25, s_X0_shiftGrounds_26, s_X0_shiftGrounds_29, s_X0_shiftGrounds_30, s_X0_shiftGrounds_31, s_X0_shiftGrounds_33, s_X0_shiftGrounds_36, s_X0_shiftGrounds_37, s_X0_shiftGrounds_38, s_X0_shiftGrounds_41, s_X0_shiftGrounds_47, s_X0_shiftGrounds_50, s_X0_shiftGrounds_53, ↓reduceIte, Option.toList_some, Option.toList_none, List.cons_append, List.nil_append, List.singleton_append, List.append_nil, true_and, and_true, true_or, or_true, andT, iteT, iteF, itT, itF, iadd_ok]
      refine hn _ _ ⟨⟨_, rfl⟩, Fr_trans f1 g1, ?_⟩
      rw [bSet_bSet, bSet_eq] at g2
      have es : ((i + 1 : Nat) : Int) = (i : Int) + 1 := by omega
      rw [es, shT_s (by omega)]
      exact g2
  · rintro ls m' ⟨⟨u, rfl⟩, f1, f2⟩
    rw [s_X0_shiftGrounds_2]
    simp (disch := first | assumption | omega | (simp (disch := omega) only [gU_row, gU_same, gU_i, gCp_row] <;> omega)) only [e_X0_shiftGrounds, s_X0_shiftGrounds_0, s_X0_shiftGrounds_1, s_X0_shiftGrounds_3, s_X0_shiftGrounds_4, s_X0_shiftGrounds_7, s_X0_shiftGrounds_8, s_X0_shiftGrounds_11, s_X0_shiftGrounds_12, s_X0_shiftGrounds_13, s_X0_shiftGrounds_16, s_X0_shiftGrounds_17, s_X0_shiftGrounds_18, s_X0_shiftGrounds_20, s_X0_shiftGrounds_21, s_X0_shiftGrounds_24, s_X0_shiftGrounds_25, s_X0_shiftGrounds_26, s_X0_shiftGrounds_29, s_X0_shiftGrounds_30, s_X0_shiftGrounds_31, s_X0_shiftGrounds_33, s_X0_shiftGrounds_36, s_X0_shiftGrounds_37, s_X0_shiftGrounds_38, s_X0_shiftGrounds_41, s_X0_shiftGrounds_44, s_X0_shiftGrounds_47, s_X0_shiftGrounds_50, s_X0_shiftGrounds_53, ↓reduceIte, Option.toList_some, Option.toList_none, List.cons_append, List.nil_append, List.singleton_append, List.append_nil, true_and, and_true, true_or, or_true, andT, iteT, iteF, itT, itF]
    exact hk _ f1 f2
theorem c_fit (h : RB q) : C (d + 1) M_X2_fit [(2, q + 86), (1, x)] (w0 L z X Y) m K = K (some (1, fitv x)) (w0 L z X Y) (fitm m (q + 86) x) := by
  have hq2 : 1 ≤ q := by rcases h with h | h <;> omega
  unfold fitv fitm
  by_cases hc : -2147483648 ≤ x ∧ x ≤ 2147483647
  · simp (disch := first | assumption | omega | (simp (disch := omega) only [gU_row, gU_same, gU_i, gCp_row] <;> omega)) only [e_X2_fit, s_X2_fit_0, s_X2_fit_1, s_X2_fit_4, s_X2_fit_5, s_X2_fit_8, s_X2_fit_9, s_X2_fit_12, s_X2_fit_13, s_X2_fit_16, s_X2_fit_17, s_X2_fit_18, s_X2_fit_21, s_X2_fit_22, s_X2_fit_23, s_X2_fit_24, ↓reduceIte, Option.toList_some, Option.toList_none, List.cons_append, List.nil_append, List.singleton_append, List.append_nil, true_and, and_true, true_or, or_true, andT, iteT, iteF, itT, itF, zS_r86 h, lcmp_lt, lcmp_le]
  · by_cases h1 : x < -2147483648
    · simp (disch := first | assumption | omega | (simp (disch := omega) only [gU_row, gU_same, gU_i, gCp_row] <;> omega)) only [e_X2_fit, s_X2_fit_0, s_X2_fit_1, s_X2_fit_4, s_X2_fit_5, s_X2_fit_8, s_X2_fit_9, s_X2_fit_12, s_X2_fit_13, s_X2_fit_16, s_X2_fit_17, s_X2_fit_18, s_X2_fit_21, s_X2_fit_22, s_X2_fit_23, s_X2_fit_24, ↓reduceIte, Option.toList_some, Option.toList_none, List.cons_append, List.nil_append, List.singleton_append, List.append_nil, true_and, and_true, true_or, or_true, andT, iteT, iteF, itT, itF, zS_r86 h, lcmp_lt, lcmp_le]
    · simp (disch := first | assumption | omega | (simp (disch := omega) only [gU_row, gU_same, gU_i, gCp_row] <;> omega)) only [e_X2_fit, s_X2_fit_0, s_X2_fit_1, s_X2_fit_4, s_X2_fit_5, s_X2_fit_8, s_X2_fit_9, s_X2_fit_12, s_X2_fit_13, s_X2_fit_16, s_X2_fit_17, s_X2_fit_18, s_X2_fit_21, s_X2_fit_22, s_X2_fit_23, s_X2_fit_24, ↓reduceIte, Option.toList_some, Option.toList_none, List.cons_append, List.nil_append, List.singleton_append, List.append_nil, true_and, and_true, true_or, or_true, andT, iteT, iteF, itT, itF, zS_r86 h, lcmp_lt, lcmp_le]
theorem c_isInt : C (d + 1) M_X2_isInt [(1, x)] w m K = K (some (0, if -2147483648 ≤ x ∧ x ≤ 2147483647 then 1 else 0)) w m := by
  by_cases hc : -2147483648 ≤ x ∧ x ≤ 2147483647
  · simp (disch := first | assumption | omega | (simp (disch := omega) only [gU_row, gU_same, gU_i, gCp_row] <;> omega)) only [e_X2_isInt, s_X2_isInt_0, s_X2_isInt_1, s_X2_isInt_4, s_X2_isInt_5, s_X2_isInt_8, s_X2_isInt_9, s_X2_isInt_12, s_X2_isInt_13, s_X2_isInt_16, s_X2_isInt_17, s_X2_isInt_20, s_X2_isInt_21, ↓reduceIte, Option.toList_some, Option.toList_none, List.cons_append, List.nil_append, List.singleton_append, List.append_nil, true_and, and_true, true_or, or_true, andT, iteT, iteF, itT, itF, lcmp_lt, lcmp_le, lcmp_gt]
  · by_cases h1 : x < -2147483648
    · simp (disch := first | assumption | omega | (simp (disch := omega) only [gU_row, gU_same, gU_i, gCp_row] <;> omega)) only [e_X2_isInt, s_X2_isInt_0, s_X2_isInt_1, s_X2_isInt_4, s_X2_isInt_5, s_X2_isInt_8, s_X2_isInt_9, s_X2_isInt_12, s_X2_isInt_13, s_X2_isInt_16, s_X2_isInt_17, s_X2_isInt_20, s_X2_isInt_21, ↓reduceIte, Option.toList_some, Option.toList_none, List.cons_append, List.nil_append, List.singleton_append, List.append_nil, true_and, and_true, true_or, or_true, andT, iteT, iteF, itT, itF, lcmp_lt, lcmp_le, lcmp_gt]
    · simp (disch := first | assumption | omega | (simp (disch := omega) only [gU_row, gU_same, gU_i, gCp_row] <;> omega)) only [e_X2_isInt, s_X2_isInt_0, s_X2_isInt_1, s_X2_isInt_4, s_X2_isInt_5, s_X2_isInt_8, s_X2_isInt_9, s_X2_isInt_12, s_X2_isInt_13, s_X2_isInt_16, s_X2_isInt_17, s_X2_isInt_20, s_X2_isInt_21, ↓reduceIte, Option.toList_some, Option.toList_none, List.cons_append, List.nil_append, List.singleton_append, List.append_nil, true_and, and_true, true_or, or_true, andT, iteT, iteF, itT, itF, lcmp_lt, lcmp_le, lcmp_gt]
set_option maxHeartbeats 400000 in
theorem c_scale (hq : BB q) (hb : BK m q b) (hQ : WfQ b) (h0 : 1 ≤ v) (h1 : v ≤ 300) (hk1 : OkS b v → ∀ m', Fr (q + 7) (q + 8) m m' → BK m' q (bScale b v) → K (some (0, 1)) (w0 L z X Y) m') (hk0 : ¬ OkS b v → ∀ m' b', Fr (q + 7) (q + 8) m m' → BK m' q b' → K (some (0, 0)) (w0 L z X Y) m') : C (d + 4) M_X0_scale [(2, q), (0, v)] (w0 L z X Y) m K := by
  have hq2 := BB_0 hq
  have hs := BK_s3 hb
  simp (disch := first | assumption | omega | (simp (disch := omega) only [gU_row, gU_same, gU_i, gCp_row] <;> omega)) only [e_X0_scale, s_X0_scale_0, s_X0_scale_1, s_X0_scale_3, s_X0_scale_4, s_X0_scale_7, s_X0_scale_10, s_X0_scale_13, s_X0_scale_14, s_X0_scale_17, s_X0_scale_18, s_X0_scale_19, s_X0_scale_22, s_X0_scale_23, s_X0_scale_24, s_X0_scale_25, s_X0_scale_26, s_X0_scale_29, s_X0_scale_30, s_X0_scale_31, s_X0_scale_32, s_X0_scale_35, s_X0_scale_38, s_X0_scale_39, s_X0_scale_40, s_X0_scale_41, s_X0_scale_44, s_X0_scale_45, s_X0_scale_46, s_X0_scale_47, s_X0_scale_48, s_X0_scale_51, s_X0_scale_54, s_X0_scale_57, s_X0_scale_58, s_X0_scale_61, s_X0_scale_62, s_X0_scale_65, s_X0_scale_66, ↓reduceIte, Option.toList_some, Option.toList_none, List.cons_append, List.nil_append, List.singleton_append, List.append_nil, true_and, and_true, true_or, or_true, andT, iteT, iteF, itT, itF]
  refine R_for0 (b 3).1.toNat (fun i ls m' => (∃ u, ls = [(2, q), (0, v), (0, (i : Int)), u, (3, 0)]) ∧ Fr (q + 7) (q + 8) m m' ∧ BK m' q (bSet b 3 (scT (b 3) v i)) ∧ ∀ l, 0 ≤ l → l < (i : Int) → okI (td ((b 3).2 l 4 * v) 100)) ⟨⟨_, rfl⟩, Fr_refl, by rw [show ((0 : Nat) : Int) = 0 from rfl, scT_0, bSet_self]; exact hb, fun l _ _ => by omega⟩ ?_ ?_
  · rintro i ls m' hi ⟨⟨u, rfl⟩, f1, f2, f3⟩ hn
    have e1 : (bSet b 3 (scT (b 3) v i) 3).1 = (b 3).1 := rfl
    have e2 : (bSet b 3 (scT (b 3) v i) 3).2 i 4 = (b 3).2 i 4 := by
      show (if _ then _ else _) = _
      rw [if_neg (by omega)]
    have a := hQ i (by omega) (by omega)
    have bd := mul_bd (a := (b 3).2 i 4) (b := v) 2147483648 300 (by omega) (by omega) (by omega) (by omega)
    have en := bk_n3 f2
    rw [s_X0_scale_2]
    by_cases ho : okI (td ((b 3).2 i 4 * v) 100)
    · have ho' := ho
      unfold okI at ho'
      simp (disch := first | assumption | omega | (simp (disch := omega) only [gU_row, gU_same, gU_i, gCp_row] <;> omega)) only [e_X0_scale, s_X0_scale_0, s_X0_scale_1, s_X0_scale_3, s_X0_scale_4, s_X0_scale_7, s_X0_scale_10, s_X0_scale_13, s_X0_scale_14, s_X0_scale_17, s_X0_scale_18, s_X0_scale_19, s_X0_scale_22, s_X0_scale_23, s_X0_scale_24, s_X0_scale_25, s_X0_scale_26, s_X0_scale_29, s_X0_scale_30, s_X0_scale_31, s_X0_scale_32, s_X0_scale_35, s_X0_scale_38, s_X0_scale_39, s_X0_scale_40, s_X0_scale_41, s_X0_scale_44, s_X0_scale_45, s_X0_scale_46, s_X0_scale_47, s_X0_scale_51, s_X0_scale_54, s_X0_scale_57, s_X0_scale_58, s_X0_scale_61, s_X0_scale_62, s_X0_scale_65, s_X0_scale_66, ↓reduceIte, Option.toList_some, Option.toList_none, List.cons_append, List.nil_append, List.singleton_append, List.append_nil, true_and, and_true, true_or, or_true, andT, iteT, iteF, itT, itF, zS_b0 hq, zP_b0_0 hq, zP_b0_1 hq, zP_b0_2 hq, zP_b0_3 hq, zP_b0_4 hq, zP_b0_5 hq, zS_b1 hq, zS_b3 hq, zS_b5 hq, zS_b7 hq, zS_b9 hq, zS_b11 hq, at_3 hq f2, e1, e2, en, lmul_ok, ldiv_lit, c_isInt, l2i_ok, ne_eq, not_true_eq_false, not_false_eq_true]
      rw [s_X0_scale_48]
      simp (disch := first | assumption | omega | (simp (disch := omega) only [gU_row, gU_same, gU_i, gCp_row] <;> omega)) only [e_X0_scale, s_X0_scale_0, s_X0_scale_1, s_X0_scale_3, s_X0_scale_4, s_X0_scale_7, s_X0_scale_10, s_X0_scale_13, s_X0_scale_14, s_X0_scale_17, s_X0_scale_18, s_X0_scale_19, s_X0_scale_22, s_X0_scale_23, s_X0_scale_24, s_X0_scale_25, s_X0_scale_26, s_X0_scale_29, s_X0_scale_30, s_X0_scale_31, s_X0_scale_32, s_X0_scale_35, s_X0_scale_38, s_X0_scale_39, s_X0_scale_40, s_X0_scale_41, s_X0_scale_44, s_X0_scale_45, s_X0_scale_46, s_X0_scale_47, s_X0_scale_51, s_X0_scale_54, s_X0_scale_57, s_X0_scale_58, s_X0_scale_61, s_X0_scale_62, s_X0_scale_65, s_X0_scale_66, ↓reduceIte, Option.toList_some, Option.toList_none, List.cons_append, List.nil_append, List.singleton_append, List.append_nil, true_and, and_true, true_or, or_true, andT, iteT, iteF, itT, itF, zS_b0 hq, zP_b0_0 hq, zP_b0_1 hq, zP_b0_2 hq, zP_b0_3 hq, zP_b0_4 hq, zP_b0_5 hq, zS_b1 hq, zS_b3 hq, zS_b5 hq, zS_b7 hq, zS_b9 hq, zS_b11 hq]
      refine put_3 hq f2 (by omega) (by omega) (by omega) (by omega) (fun m2 g1 g2 => ?_)
      simp (disch := first | assumption | omega | (simp (disch := omega) only [gU_row, gU_same, gU_i, gCp_row] <;> omega)) only [e_X0_scale, s_X0_scale_0, s_X0_scale_1, s_X0_scale_3, s_X0_scale_4, s_X0_scale_7, s_X0_scale_10, s_X0_scale_13, s_X0_scale_14, s_X0_scale_17, s_X0_scale_18, s_X0_scale_19, s_X0_scale_22, s_X0_scale_23, s_X0_scale_24, s_X0_scale_25, s_X0_scale_26, s_X0_scale_29, s_X0_scale_30, s_X0_scale_31, s_X0_scale_32, s_X0_scale_35, s_X0_scale_38, s_X0_scale_39, s_X0_scale_40, s_X0_scale_41, s_X0_scale_44, s_X0_scale_45, s_X0_scale_46, s_X0_scale_47, s_X0_scale_51, s_X0_scale_54, s_X0_scale_57, s_X0_scale_58, s_X0_scale_61, s_X0_scale_62, s_X0_scale_65, s_X0_scale_66, ↓reduceIte, Option.toList_some, Option.toList_none, List.cons_append, List.nil_append, List.singleton_append, List.append_nil, true_and, and_true, true_or, or_true, andT, iteT, iteF, itT, itF, iadd_ok]
      refine hn _ _ ⟨⟨_, rfl⟩, Fr_trans f1 (Fr_w g1 (by omega) (by omega)), ?_, fun l l0 l1 => ?_⟩
      · rw [bSet_bSet, bSet_eq] at g2
        have es : ((i + 1 : Nat) : Int) = (i : Int) + 1 := by omega
        rw [es, scT_s (by omega)]
        exact g2
      · by_cases hl : l = i
        · subst hl; exact ho
        · exact f3 l l0 (by omega)
    · have ho' := ho
      unfold okI at ho'
      simp (disch := first | assumption | omega | (simp (disch := omega) only [gU_row, gU_same, gU_i, gCp_row] <;> omega)) only [e_X0_scale, s_X0_scale_0, s_X0_scale_1, s_X0_scale_3, s_X0_scale_4, s_X0_scale_7, s_X0_scale_10, s_X0_scale_13, s_X0_scale_14, s_X0_scale_17, s_X0_scale_18, s_X0_scale_19, s_X0_scale_22, s_X0_scale_23, s_X0_scale_24, s_X0_scale_25, s_X0_scale_26, s_X0_scale_29, s_X0_scale_30, s_X0_scale_31, s_X0_scale_32, s_X0_scale_35, s_X0_scale_38, s_X0_scale_39, s_X0_scale_40, s_X0_scale_41, s_X0_scale_44, s_X0_scale_45, s_X0_scale_46, s_X0_scale_47, s_X0_scale_51, s_X0_scale_54, s_X0_scale_57, s_X0_scale_58, s_X0_scale_61, s_X0_scale_62, s_X0_scale_65, s_X0_scale_66, ↓reduceIte, Option.toList_some, Option.toList_none, List.cons_append, List.nil_append, List.singleton_append, List.append_nil, true_and, and_true, true_or, or_true, andT, iteT, iteF, itT, itF, zS_b0 hq, zP_b0_0 hq, zP_b0_1 hq, zP_b0_2 hq, zP_b0_3 hq, zP_b0_4 hq, zP_b0_5 hq, zS_b1 hq, zS_b3 hq, zS_b5 hq, zS_b7 hq, zS_b9 hq, zS_b11 hq, at_3 hq f2, e1, e2, en, lmul_ok, ldiv_lit, c_isInt, l2i_ok, ne_eq, not_true_eq_false, not_false_eq_true]
      exact hk0 (fun h => ho (h i (by omega) (by omega))) _ _ f1 f2
  · rintro ls m' ⟨⟨u, rfl⟩, f1, f2, f3⟩
    have en := bk_n3 f2
    have e1 : (bSet b 3 (scT (b 3) v ((b 3).1.toNat : Nat)) 3).1 = (b 3).1 := rfl
    rw [s_X0_scale_2]
    simp (disch := first | assumption | omega | (simp (disch := omega) only [gU_row, gU_same, gU_i, gCp_row] <;> omega)) only [e_X0_scale, s_X0_scale_0, s_X0_scale_1, s_X0_scale_3, s_X0_scale_4, s_X0_scale_7, s_X0_scale_10, s_X0_scale_13, s_X0_scale_14, s_X0_scale_17, s_X0_scale_18, s_X0_scale_19, s_X0_scale_22, s_X0_scale_23, s_X0_scale_24, s_X0_scale_25, s_X0_scale_26, s_X0_scale_29, s_X0_scale_30, s_X0_scale_31, s_X0_scale_32, s_X0_scale_35, s_X0_scale_38, s_X0_scale_39, s_X0_scale_40, s_X0_scale_41, s_X0_scale_44, s_X0_scale_45, s_X0_scale_46, s_X0_scale_47, s_X0_scale_48, s_X0_scale_51, s_X0_scale_54, s_X0_scale_57, s_X0_scale_58, s_X0_scale_61, s_X0_scale_65, s_X0_scale_66, ↓reduceIte, Option.toList_some, Option.toList_none, List.cons_append, List.nil_append, List.singleton_append, List.append_nil, true_and, and_true, true_or, or_true, andT, iteT, iteF, itT, itF, zS_b0 hq, zP_b0_0 hq, zP_b0_1 hq, zP_b0_2 hq, zP_b0_3 hq, zP_b0_4 hq, zP_b0_5 hq, zS_b1 hq, zS_b3 hq, zS_b5 hq, zS_b7 hq, zS_b9 hq, zS_b11 hq, e1, en]
    rw [s_X0_scale_62]
    simp (disch := first | assumption | omega | (simp (disch := omega) only [gU_row, gU_same, gU_i, gCp_row] <;> omega)) only [e_X0_scale, s_X0_scale_0, s_X0_scale_1, s_X0_scale_3, s_X0_scale_4, s_X0_scale_7, s_X0_scale_10, s_X0_scale_13, s_X0_scale_14, s_X0_scale_17, s_X0_scale_18, s_X0_scale_19, s_X0_scale_22, s_X0_scale_23, s_X0_scale_24, s_X0_scale_25, s_X0_scale_26, s_X0_scale_29, s_X0_scale_30, s_X0_scale_31, s_X0_scale_32, s_X0_scale_35, s_X0_scale_38, s_X0_scale_39, s_X0_scale_40, s_X0_scale_41, s_X0_scale_44, s_X0_scale_45, s_X0_scale_46, s_X0_scale_47, s_X0_scale_48, s_X0_scale_51, s_X0_scale_54, s_X0_scale_57, s_X0_scale_58, s_X0_scale_61, s_X0_scale_65, s_X0_scale_66, ↓reduceIte, Option.toList_some, Option.toList_none, List.cons_append, List.nil_append, List.singleton_append, List.append_nil, true_and, and_true, true_or, or_true, andT, iteT, iteF, itT, itF, zS_b0 hq, zP_b0_0 hq, zP_b0_1 hq, zP_b0_2 hq, zP_b0_3 hq, zP_b0_4 hq, zP_b0_5 hq, zS_b1 hq, zS_b3 hq, zS_b5 hq, zS_b7 hq, zS_b9 hq, zS_b11 hq]
    refine dropZeros_3 hq f2 (fun m2 g1 g2 => ?_)
    simp (disch := first | assumption | omega | (simp (disch := omega) only [gU_row, gU_same, gU_i, gCp_row] <;> omega)) only [e_X0_scale, s_X0_scale_0, s_X0_scale_1, s_X0_scale_3, s_X0_scale_4, s_X0_scale_7, s_X0_scale_10, s_X0_scale_13, s_X0_scale_14, s_X0_scale_17, s_X0_scale_18, s_X0_scale_19, s_X0_scale_22, s_X0_scale_23, s_X0_scale_24, s_X0_scale_25, s_X0_scale_26, s_X0_scale_29, s_X0_scale_30, s_X0_scale_31, s_X0_scale_32, s_X0_scale_35, s_X0_scale_38, s_X0_scale_39, s_X0_scale_40, s_X0_scale_41, s_X0_scale_44, s_X0_scale_45, s_X0_scale_46, s_X0_scale_47, s_X0_scale_48, s_X0_scale_51, s_X0_scale_54, s_X0_scale_57, s_X0_scale_58, s_X0_scale_61, s_X0_scale_65, s_X0_scale_66, ↓reduceIte, Option.toList_some, Option.toList_none, List.cons_append, List.nil_append, List.singleton_append, List.append_nil, true_and, and_true, true_or, or_true, andT, iteT, iteF, itT, itF, zS_b0 hq, zP_b0_0 hq, zP_b0_1 hq, zP_b0_2 hq, zP_b0_3 hq, zP_b0_4 hq, zP_b0_5 hq, zS_b1 hq, zS_b3 hq, zS_b5 hq, zS_b7 hq, zS_b9 hq, zS_b11 hq]
    have et : (((b 3).1.toNat : Nat) : Int) = (b 3).1 := by omega
    rw [bSet_bSet, bSet_eq, et] at g2
    exact hk1 (fun l l0 l1 => f3 l l0 (by omega)) _ (Fr_trans f1 g1) g2
end BOOK3
