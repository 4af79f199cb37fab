/-! TABLES: what they hold, plainly; the class's Table. -/

theorem andT {p q : Prop} (h : p) : (p ∧ q) = q := by simp [h]
theorem iteT {c p q : Prop} [Decidable c] (h : c) : (if c then p else q) = p := if_pos h
theorem iteF {c p q : Prop} [Decidable c] (h : ¬ c) : (if c then p else q) = q := if_neg h
theorem itT {α : Type} {c : Prop} {p q : α} [Decidable c] (h : c) : (if c then p else q) = p := if_pos h
theorem itF {α : Type} {c : Prop} {p q : α} [Decidable c] (h : ¬ c) : (if c then p else q) = q := if_neg h
abbrev Tb : Type := Int × (Int → Int → Int)
abbrev Bk : Type := Nat → Tb
def tb (n W : Int) (f : Int → Int) : Tb := (n, fun r c => if 0 ≤ r ∧ r < n ∧ 0 ≤ c ∧ c < W then f (r * W + c) else 0)
def absB (q : Int) (m : gM) : Bk := fun t => match t with
  | 0 => tb (m (q + 1) 3) 6 (m (q + 2))
  | 1 => tb (m (q + 3) 3) 3 (m (q + 4))
  | 2 => tb (m (q + 5) 3) 6 (m (q + 6))
  | 3 => tb (m (q + 7) 3) 5 (m (q + 8))
  | 4 => tb (m (q + 9) 3) 2 (m (q + 10))
  | 5 => tb (m (q + 11) 3) 2 (m (q + 12))
  | _ => tb 0 0 (fun _ => 0)
def TBs (q : Int) (m : gM) : Prop := ((m (q + 1) 0 = 5 ∧ m (q + 1) 1 = 6) ∧ (m (q + 3) 0 = 8 ∧ m (q + 3) 1 = 3) ∧ (m (q + 5) 0 = 6 ∧ m (q + 5) 1 = 6) ∧ (m (q + 7) 0 = 24 ∧ m (q + 7) 1 = 5) ∧ (m (q + 9) 0 = 4 ∧ m (q + 9) 1 = 2) ∧ (m (q + 11) 0 = 8 ∧ m (q + 11) 1 = 2)) ∧ m (q + 1) 3 = 5 ∧ (0 ≤ m (q + 3) 3 ∧ m (q + 3) 3 ≤ 8) ∧ (0 ≤ m (q + 5) 3 ∧ m (q + 5) 3 ≤ 6) ∧ (0 ≤ m (q + 7) 3 ∧ m (q + 7) 3 ≤ 24) ∧ (0 ≤ m (q + 9) 3 ∧ m (q + 9) 3 ≤ 4) ∧ (0 ≤ m (q + 11) 3 ∧ m (q + 11) 3 ≤ 8)
def BK (m : gM) (q : Int) (b : Bk) : Prop := TBs q m ∧ absB q m = b
section TAB0
variable {m : gM} {v : Int}
theorem gU_row {a i a' : Int} (h : a' ≠ a) : gU m a i v a' = m a' := funext fun _ => gU_a h
theorem gU_rw {a i : Int} : gU m a i v a = fun i' => if i' = i then v else m a i' := by
  funext i'
  unfold gU
  simp
theorem gCp_row {a i c j n a' : Int} (h : a' ≠ c) : gCp m a i c j n a' = m a' := by
  funext i'
  unfold gCp
  rw [if_neg (fun h' => h h'.1)]
theorem gCp_rw {a i c j n : Int} : gCp m a i c j n c = fun i' => if j ≤ i' ∧ i' < j + n then m a (i + (i' - j)) else m c i' := by
  funext i'
  unfold gCp
  simp
end TAB0
section TAB
variable {L d N : Nat} {z X Y q x y v t c n : Int} {w : gW} {m : gM} {K : Option gV → gW → gM → Prop} {b : Bk}
theorem at_gen (h1 : wS w t = (5, 4)) (h2 : wP w t 2 = c) (h3 : wS w c = (100, N)) (h4 : imul x (m t 1) = v) (h5 : iadd v y = n) (h6 : 0 ≤ n) (h7 : n < N) : C (d + 1) M_X5_at [(2, t), (0, x), (0, y)] w m K = K (some (0, m c n)) w m := by
  simp (disch := first | assumption | omega | (simp (disch := omega) only [gU_row, gU_same, gU_i, gCp_row] <;> omega)) only [e_X5_at, s_X5_at_0, s_X5_at_1, s_X5_at_2, s_X5_at_5, s_X5_at_6, s_X5_at_7, s_X5_at_8, s_X5_at_9, s_X5_at_10, s_X5_at_13, s_X5_at_14, s_X5_at_15, s_X5_at_18, s_X5_at_19, s_X5_at_22, s_X5_at_23, s_X5_at_26, s_X5_at_27, s_X5_at_28, s_X5_at_31, s_X5_at_32, Option.toList_some, Option.toList_none, List.cons_append, List.nil_append, List.singleton_append, List.append_nil, true_and, and_true, true_or, or_true, andT, iteT, iteF, itT, itF, h1, h2, h3, h4, h5]
theorem at_0 (hq : BB q) (h : BK m q b) (h0 : 0 ≤ x) (h1 : x < (b 0).1) (h2 : 0 ≤ y) (h3 : y < 6) : C (d + 1) M_X5_at [(2, q + 1), (0, x), (0, y)] (w0 L z X Y) m K = K (some (0, (b 0).2 x y)) (w0 L z X Y) m := by
  obtain ⟨ht, rfl⟩ := h
  have e : (absB q m 0).1 = m (q + 1) 3 := rfl
  rw [e] at h1
  unfold TBs at ht
  have hw : m (q + 1) 1 = 6 := by omega
  rw [at_gen (zS_b1 hq) (zP_b1_2 hq) (zS_b2 hq) (v := x * 6) (n := x * 6 + y) (by rw [hw, imul_ok] <;> omega) (by rw [iadd_ok] <;> omega) (by omega) (by omega)]
  show _ = K (some (0, if _ then _ else _)) _ _
  rw [if_pos ⟨h0, h1, h2, h3⟩]
theorem at_1 (hq : BB q) (h : BK m q b) (h0 : 0 ≤ x) (h1 : x < (b 1).1) (h2 : 0 ≤ y) (h3 : y < 3) : C (d + 1) M_X5_at [(2, q + 3), (0, x), (0, y)] (w0 L z X Y) m K = K (some (0, (b 1).2 x y)) (w0 L z X Y) m := by
  obtain ⟨ht, rfl⟩ := h
  have e : (absB q m 1).1 = m (q + 3) 3 := rfl
  rw [e] at h1
  unfold TBs at ht
  have hw : m (q + 3) 1 = 3 := by omega
  rw [at_gen (zS_b3 hq) (zP_b3_2 hq) (zS_b4 hq) (v := x * 3) (n := x * 3 + y) (by rw [hw, imul_ok] <;> omega) (by rw [iadd_ok] <;> omega) (by omega) (by omega)]
  show _ = K (some (0, if _ then _ else _)) _ _
  rw [if_pos ⟨h0, h1, h2, h3⟩]
theorem at_2 (hq : BB q) (h : BK m q b) (h0 : 0 ≤ x) (h1 : x < (b 2).1) (h2 : 0 ≤ y) (h3 : y < 6) : C (d + 1) M_X5_at [(2, q + 5), (0, x), (0, y)] (w0 L z X Y) m K = K (some (0, (b 2).2 x y)) (w0 L z X Y) m := by
  obtain ⟨ht, rfl⟩ := h
  have e : (absB q m 2).1 = m (q + 5) 3 := rfl
  rw [e] at h1
  unfold TBs at ht
  have hw : m (q + 5) 1 = 6 := by omega
  rw [at_gen (zS_b5 hq) (zP_b5_2 hq) (zS_b6 hq) (v := x * 6) (n := x * 6 + y) (by rw [hw, imul_ok] <;> omega) (by rw [iadd_ok] <;> omega) (by omega) (by omega)]
  show _ = K (some (0, if _ then _ else _)) _ _
  rw [if_pos ⟨h0, h1, h2, h3⟩]
theorem at_3 (hq : BB q) (h : BK m q b) (h0 : 0 ≤ x) (h1 : x < (b 3).1) (h2 : 0 ≤ y) (h3 : y < 5) : C (d + 1) M_X5_at [(2, q + 7), (0, x), (0, y)] (w0 L z X Y) m K = K (some (0, (b 3).2 x y)) (w0 L z X Y) m := by
  obtain ⟨ht, rfl⟩ := h
  have e : (absB q m 3).1 = m (q + 7) 3 := rfl
  rw [e] at h1
  unfold TBs at ht
  have hw : m (q + 7) 1 = 5 := by omega
  rw [at_gen (zS_b7 hq) (zP_b7_2 hq) (zS_b8 hq) (v := x * 5) (n := x * 5 + y) (by rw [hw, imul_ok] <;> omega) (by rw [iadd_ok] <;> omega) (by omega) (by omega)]
  show _ = K (some (0, if _ then _ else _)) _ _
  rw [if_pos ⟨h0, h1, h2, h3⟩]
theorem at_4 (hq : BB q) (h : BK m q b) (h0 : 0 ≤ x) (h1 : x < (b 4).1) (h2 : 0 ≤ y) (h3 : y < 2) : C (d + 1) M_X5_at [(2, q + 9), (0, x), (0, y)] (w0 L z X Y) m K = K (some (0, (b 4).2 x y)) (w0 L z X Y) m := by
  obtain ⟨ht, rfl⟩ := h
  have e : (absB q m 4).1 = m (q + 9) 3 := rfl
  rw [e] at h1
  unfold TBs at ht
  have hw : m (q + 9) 1 = 2 := by omega
  rw [at_gen (zS_b9 hq) (zP_b9_2 hq) (zS_b10 hq) (v := x * 2) (n := x * 2 + y) (by rw [hw, imul_ok] <;> omega) (by rw [iadd_ok] <;> omega) (by omega) (by omega)]
  show _ = K (some (0, if _ then _ else _)) _ _
  rw [if_pos ⟨h0, h1, h2, h3⟩]
theorem at_5 (hq : BB q) (h : BK m q b) (h0 : 0 ≤ x) (h1 : x < (b 5).1) (h2 : 0 ≤ y) (h3 : y < 2) : C (d + 1) M_X5_at [(2, q + 11), (0, x), (0, y)] (w0 L z X Y) m K = K (some (0, (b 5).2 x y)) (w0 L z X Y) m := by
  obtain ⟨ht, rfl⟩ := h
  have e : (absB q m 5).1 = m (q + 11) 3 := rfl
  rw [e] at h1
  unfold TBs at ht
  have hw : m (q + 11) 1 = 2 := by omega
  rw [at_gen (zS_b11 hq) (zP_b11_2 hq) (zS_b12 hq) (v := x * 2) (n := x * 2 + y) (by rw [hw, imul_ok] <;> omega) (by rw [iadd_ok] <;> omega) (by omega) (by omega)]
  show _ = K (some (0, if _ then _ else _)) _ _
  rw [if_pos ⟨h0, h1, h2, h3⟩]
theorem put_gen (h1 : wS w t = (5, 4)) (h2 : wP w t 2 = c) (h3 : wS w c = (100, N)) (h4 : imul x (m t 1) = v) (h5 : iadd v y = n) (h6 : 0 ≤ n) (h7 : n < N) (h8 : 0 ≤ c) {u : Int} : C (d + 1) M_X5_put [(2, t), (0, x), (0, y), (0, u)] w m K = K none w (gU m c n u) := by
  simp (disch := first | assumption | omega | (simp (disch := omega) only [gU_row, gU_same, gU_i, gCp_row] <;> omega)) only [e_X5_put, s_X5_put_0, s_X5_put_1, s_X5_put_2, s_X5_put_5, s_X5_put_6, s_X5_put_7, s_X5_put_8, s_X5_put_10, s_X5_put_12, s_X5_put_15, s_X5_put_17, s_X5_put_18, s_X5_put_21, s_X5_put_22, s_X5_put_25, s_X5_put_26, s_X5_put_29, s_X5_put_31, s_X5_put_32, s_X5_put_33, Option.toList_some, Option.toList_none, List.cons_append, List.nil_append, List.singleton_append, List.append_nil, true_and, and_true, true_or, or_true, andT, iteT, iteF, itT, itF, h1, h2, h3, h4, h5]
theorem has_gen (h1 : wS w t = (5, 4)) : C (d + 1) M_X5_has [(2, t), (0, x)] w m K = K (some (0, if 0 ≤ x ∧ x < m t 3 then 1 else 0)) w m := by
  simp (disch := first | assumption | omega | (simp (disch := omega) only [gU_row, gU_same, gU_i, gCp_row] <;> omega)) only [e_X5_has, s_X5_has_0, s_X5_has_1, s_X5_has_4, s_X5_has_5, s_X5_has_6, s_X5_has_9, s_X5_has_12, s_X5_has_13, s_X5_has_16, s_X5_has_17, Option.toList_some, Option.toList_none, List.cons_append, List.nil_append, List.singleton_append, List.append_nil, true_and, and_true, true_or, or_true, andT, iteT, iteF, itT, itF, h1]
  by_cases hx : 0 ≤ x <;> by_cases hy : x < m t 3 <;> simp (disch := omega) only [itT, itF, iteT, iteF]
theorem has_0 (hq : BB q) (h : BK m q b) : C (d + 1) M_X5_has [(2, q + 1), (0, x)] (w0 L z X Y) m K = K (some (0, if 0 ≤ x ∧ x < (b 0).1 then 1 else 0)) (w0 L z X Y) m := by
  obtain ⟨ht, rfl⟩ := h
  rw [has_gen (zS_b1 hq)]
  rfl
theorem has_1 (hq : BB q) (h : BK m q b) : C (d + 1) M_X5_has [(2, q + 3), (0, x)] (w0 L z X Y) m K = K (some (0, if 0 ≤ x ∧ x < (b 1).1 then 1 else 0)) (w0 L z X Y) m := by
  obtain ⟨ht, rfl⟩ := h
  rw [has_gen (zS_b3 hq)]
  rfl
theorem has_2 (hq : BB q) (h : BK m q b) : C (d + 1) M_X5_has [(2, q + 5), (0, x)] (w0 L z X Y) m K = K (some (0, if 0 ≤ x ∧ x < (b 2).1 then 1 else 0)) (w0 L z X Y) m := by
  obtain ⟨ht, rfl⟩ := h
  rw [has_gen (zS_b5 hq)]
  rfl
theorem has_3 (hq : BB q) (h : BK m q b) : C (d + 1) M_X5_has [(2, q + 7), (0, x)] (w0 L z X Y) m K = K (some (0, if 0 ≤ x ∧ x < (b 3).1 then 1 else 0)) (w0 L z X Y) m := by
  obtain ⟨ht, rfl⟩ := h
  rw [has_gen (zS_b7 hq)]
  rfl
theorem has_4 (hq : BB q) (h : BK m q b) : C (d + 1) M_X5_has [(2, q + 9), (0, x)] (w0 L z X Y) m K = K (some (0, if 0 ≤ x ∧ x < (b 4).1 then 1 else 0)) (w0 L z X Y) m := by
  obtain ⟨ht, rfl⟩ := h
  rw [has_gen (zS_b9 hq)]
  rfl
theorem has_5 (hq : BB q) (h : BK m q b) : C (d + 1) M_X5_has [(2, q + 11), (0, x)] (w0 L z X Y) m K = K (some (0, if 0 ≤ x ∧ x < (b 5).1 then 1 else 0)) (w0 L z X Y) m := by
  obtain ⟨ht, rfl⟩ := h
  rw [has_gen (zS_b11 hq)]
  rfl
/-! the plain changes of a table -/
def tPut (T : Tb) (r c v : Int) : Tb := (T.1, fun r' c' => if r' = r ∧ c' = c then v else T.2 r' c')
def tGrow (T : Tb) : Tb := (T.1 + 1, T.2)
def tRem (T : Tb) (i : Int) : Tb := (T.1 - 1, fun r c => if r < i then T.2 r c else T.2 (r + 1) c)
def bSet (b : Bk) (t : Nat) (T : Tb) : Bk := fun t' => if t' = t then T else b t'
theorem bSet_ne {t t' : Nat} {T : Tb} (h : t' ≠ t) : bSet b t T t' = b t' := if_neg h
theorem bSet_eq {t : Nat} {T : Tb} : bSet b t T t = T := if_pos rfl
theorem absB_0 : absB q m 0 = tb (m (q + 1) 3) 6 (m (q + 2)) := rfl
theorem absB_1 : absB q m 1 = tb (m (q + 3) 3) 3 (m (q + 4)) := rfl
theorem absB_2 : absB q m 2 = tb (m (q + 5) 3) 6 (m (q + 6)) := rfl
theorem absB_3 : absB q m 3 = tb (m (q + 7) 3) 5 (m (q + 8)) := rfl
theorem absB_4 : absB q m 4 = tb (m (q + 9) 3) 2 (m (q + 10)) := rfl
theorem absB_5 : absB q m 5 = tb (m (q + 11) 3) 2 (m (q + 12)) := rfl
theorem mul_lin {r r' W c c' : Int} (hW : 0 < W) (h : r * W + c = r' * W + c') (h0 : 0 ≤ c) (h1 : c < W) (h2 : 0 ≤ c') (h3 : c' < W) : r = r' ∧ c = c' := by
  have a := Int.emod_emod_of_dvd (r * W + c) (Int.dvd_refl W)
  have e1 : (r * W + c) / W = r := by rw [Int.add_comm, Int.add_mul_ediv_right _ _ (by omega), Int.ediv_eq_zero_of_lt h0 h1]; omega
  have e2 : (r' * W + c') / W = r' := by rw [Int.add_comm, Int.add_mul_ediv_right _ _ (by omega), Int.ediv_eq_zero_of_lt h2 h3]; omega
  have : r = r' := by rw [← e1, h, e2]
  subst this
  exact ⟨rfl, by omega⟩
theorem tb_put {n W v r c : Int} {f : Int → Int} (h0 : 0 ≤ r) (h1 : r < n) (h2 : 0 ≤ c) (h3 : c < W) : tb n W (fun i => if i = r * W + c then v else f i) = tPut (tb n W f) r c v := by
  unfold tb tPut
  congr 1
  funext r' c'
  by_cases hr : r' = r ∧ c' = c
  · obtain ⟨rfl, rfl⟩ := hr
    simp [h0, h1, h2, h3]
  · rw [if_neg hr]
    show (if _ then (if _ then _ else _) else _) = (if _ then _ else _)
    by_cases hi : 0 ≤ r' ∧ r' < n ∧ 0 ≤ c' ∧ c' < W
    · rw [if_pos hi, if_pos hi, if_neg]
      intro e
      exact hr (mul_lin (by omega) e (by omega) (by omega) (by omega) (by omega))
    · rw [if_neg hi, if_neg hi]
theorem bk_ext {b b' : Bk} (h0 : b 0 = b' 0) (h1 : b 1 = b' 1) (h2 : b 2 = b' 2) (h3 : b 3 = b' 3) (h4 : b 4 = b' 4) (h5 : b 5 = b' 5) (h6 : ∀ t, 6 ≤ t → b t = b' t) : b = b' := by
  funext t
  match t with
  | 0 => exact h0
  | 1 => exact h1
  | 2 => exact h2
  | 3 => exact h3
  | 4 => exact h4
  | 5 => exact h5
  | t + 6 => exact h6 _ (by omega)
theorem absB_6 {t : Nat} (h : 6 ≤ t) : absB q m t = tb 0 0 (fun _ => 0) := by
  match t, h with
  | t + 6, _ => rfl
theorem BK_put0 {u : Int} (h : BK m q b) (h0 : 0 ≤ x) (h1 : x < (b 0).1) (h2 : 0 ≤ y) (h3 : y < 6) : BK (gU m (q + 2) (x * 6 + y) u) q (bSet b 0 (tPut (b 0) x y u)) := by
  obtain ⟨ht, rfl⟩ := h
  refine ⟨?_, ?_⟩
  · unfold TBs at ht ⊢
    simp only [gU_a (show q + 1 ≠ q + 2 by omega), gU_a (show q + 3 ≠ q + 2 by omega), gU_a (show q + 5 ≠ q + 2 by omega), gU_a (show q + 7 ≠ q + 2 by omega), gU_a (show q + 9 ≠ q + 2 by omega), gU_a (show q + 11 ≠ q + 2 by omega)]
    exact ht
  · refine bk_ext ?_ ?_ ?_ ?_ ?_ ?_ (fun t ht => by rw [bSet_ne (by omega), absB_6 ht, absB_6 ht])
    all_goals first
      | (simp (disch := omega) only [absB_0, absB_1, absB_2, absB_3, absB_4, absB_5, bSet_ne, gU_row]; done)
      | (simp (disch := omega) only [absB_0, absB_1, absB_2, absB_3, absB_4, absB_5, bSet_eq, gU_a, gU_rw]
         exact tb_put h0 h1 h2 h3)
theorem BK_put1 {u : Int} (h : BK m q b) (h0 : 0 ≤ x) (h1 : x < (b 1).1) (h2 : 0 ≤ y) (h3 : y < 3) : BK (gU m (q + 4) (x * 3 + y) u) q (bSet b 1 (tPut (b 1) x y u)) := by
  obtain ⟨ht, rfl⟩ := h
  refine ⟨?_, ?_⟩
  · unfold TBs at ht ⊢
    simp only [gU_a (show q + 1 ≠ q + 4 by omega), gU_a (show q + 3 ≠ q + 4 by omega), gU_a (show q + 5 ≠ q + 4 by omega), gU_a (show q + 7 ≠ q + 4 by omega), gU_a (show q + 9 ≠ q + 4 by omega), gU_a (show q + 11 ≠ q + 4 by omega)]
    exact ht
  · refine bk_ext ?_ ?_ ?_ ?_ ?_ ?_ (fun t ht => by rw [bSet_ne (by omega), absB_6 ht, absB_6 ht])
    all_goals first
      | (simp (disch := omega) only [absB_0, absB_1, absB_2, absB_3, absB_4, absB_5, bSet_ne, gU_row]; done)
      | (simp (disch := omega) only [absB_0, absB_1, absB_2, absB_3, absB_4, absB_5, bSet_eq, gU_a, gU_rw]
         exact tb_put h0 h1 h2 h3)
theorem BK_put2 {u : Int} (h : BK m q b) (h0 : 0 ≤ x) (h1 : x < (b 2).1) (h2 : 0 ≤ y) (h3 : y < 6) : BK (gU m (q + 6) (x * 6 + y) u) q (bSet b 2 (tPut (b 2) x y u)) := by
  obtain ⟨ht, rfl⟩ := h
  refine ⟨?_, ?_⟩
  · unfold TBs at ht ⊢
    simp only [gU_a (show q + 1 ≠ q + 6 by omega), gU_a (show q + 3 ≠ q + 6 by omega), gU_a (show q + 5 ≠ q + 6 by omega), gU_a (show q + 7 ≠ q + 6 by omega), gU_a (show q + 9 ≠ q + 6 by omega), gU_a (show q + 11 ≠ q + 6 by omega)]
    exact ht
  · refine bk_ext ?_ ?_ ?_ ?_ ?_ ?_ (fun t ht => by rw [bSet_ne (by omega), absB_6 ht, absB_6 ht])
    all_goals first
      | (simp (disch := omega) only [absB_0, absB_1, absB_2, absB_3, absB_4, absB_5, bSet_ne, gU_row]; done)
      | (simp (disch := omega) only [absB_0, absB_1, absB_2, absB_3, absB_4, absB_5, bSet_eq, gU_a, gU_rw]
         exact tb_put h0 h1 h2 h3)
theorem BK_put3 {u : Int} (h : BK m q b) (h0 : 0 ≤ x) (h1 : x < (b 3).1) (h2 : 0 ≤ y) (h3 : y < 5) : BK (gU m (q + 8) (x * 5 + y) u) q (bSet b 3 (tPut (b 3) x y u)) := by
  obtain ⟨ht, rfl⟩ := h
  refine ⟨?_, ?_⟩
  · unfold TBs at ht ⊢
    simp only [gU_a (show q + 1 ≠ q + 8 by omega), gU_a (show q + 3 ≠ q + 8 by omega), gU_a (show q + 5 ≠ q + 8 by omega), gU_a (show q + 7 ≠ q + 8 by omega), gU_a (show q + 9 ≠ q + 8 by omega), gU_a (show q + 11 ≠ q + 8 by omega)]
    exact ht
  · refine bk_ext ?_ ?_ ?_ ?_ ?_ ?_ (fun t ht => by rw [bSet_ne (by omega), absB_6 ht, absB_6 ht])
    all_goals first
      | (simp (disch := omega) only [absB_0, absB_1, absB_2, absB_3, absB_4, absB_5, bSet_ne, gU_row]; done)
      | (simp (disch := omega) only [absB_0, absB_1, absB_2, absB_3, absB_4, absB_5, bSet_eq, gU_a, gU_rw]
         exact tb_put h0 h1 h2 h3)
theorem BK_put4 {u : Int} (h : BK m q b) (h0 : 0 ≤ x) (h1 : x < (b 4).1) (h2 : 0 ≤ y) (h3 : y < 2) : BK (gU m (q + 10) (x * 2 + y) u) q (bSet b 4 (tPut (b 4) x y u)) := by
  obtain ⟨ht, rfl⟩ := h
  refine ⟨?_, ?_⟩
  · unfold TBs at ht ⊢
    simp only [gU_a (show q + 1 ≠ q + 10 by omega), gU_a (show q + 3 ≠ q + 10 by omega), gU_a (show q + 5 ≠ q + 10 by omega), gU_a (show q + 7 ≠ q + 10 by omega), gU_a (show q + 9 ≠ q + 10 by omega), gU_a (show q + 11 ≠ q + 10 by omega)]
    exact ht
  · refine bk_ext ?_ ?_ ?_ ?_ ?_ ?_ (fun t ht => by rw [bSet_ne (by omega), absB_6 ht, absB_6 ht])
    all_goals first
      | (simp (disch := omega) only [absB_0, absB_1, absB_2, absB_3, absB_4, absB_5, bSet_ne, gU_row]; done)
      | (simp (disch := omega) only [absB_0, absB_1, absB_2, absB_3, absB_4, absB_5, bSet_eq, gU_a, gU_rw]
         exact tb_put h0 h1 h2 h3)
theorem BK_put5 {u : Int} (h : BK m q b) (h0 : 0 ≤ x) (h1 : x < (b 5).1) (h2 : 0 ≤ y) (h3 : y < 2) : BK (gU m (q + 12) (x * 2 + y) u) q (bSet b 5 (tPut (b 5) x y u)) := by
  obtain ⟨ht, rfl⟩ := h
  refine ⟨?_, ?_⟩
  · unfold TBs at ht ⊢
    simp only [gU_a (show q + 1 ≠ q + 12 by omega), gU_a (show q + 3 ≠ q + 12 by omega), gU_a (show q + 5 ≠ q + 12 by omega), gU_a (show q + 7 ≠ q + 12 by omega), gU_a (show q + 9 ≠ q + 12 by omega), gU_a (show q + 11 ≠ q + 12 by omega)]
    exact ht
  · refine bk_ext ?_ ?_ ?_ ?_ ?_ ?_ (fun t ht => by rw [bSet_ne (by omega), absB_6 ht, absB_6 ht])
    all_goals first
      | (simp (disch := omega) only [absB_0, absB_1, absB_2, absB_3, absB_4, absB_5, bSet_ne, gU_row]; done)
      | (simp (disch := omega) only [absB_0, absB_1, absB_2, absB_3, absB_4, absB_5, bSet_eq, gU_a, gU_rw]
         exact tb_put h0 h1 h2 h3)
/-- all else stands -/
def Fr (lo hi : Int) (m m' : gM) : Prop := ∀ a, (a < lo ∨ hi < a) → m' a = m a
theorem tb_rem {n W x : Int} {f : Int → Int} (hW : 0 < W) (h0 : 0 ≤ x) (h1 : x < n) : tb (n - 1) W (fun i => if x * W ≤ i ∧ i < x * W + (n - 1 - x) * W then f ((x + 1) * W + (i - x * W)) else f i) = tRem (tb n W f) x := by
  unfold tb tRem
  congr 1
  funext r c
  show (if _ then (if _ then _ else _) else _) = (if _ then (if _ then _ else _) else (if _ then _ else _))
  have e1 : x * W + (n - 1 - x) * W = (n - 1) * W := by rw [← Int.add_mul]; congr 1; omega
  rw [e1]
  by_cases hi : 0 ≤ r ∧ r < n - 1 ∧ 0 ≤ c ∧ c < W
  · rw [if_pos hi]
    by_cases hr : r < x
    · have hlt : (r + 1) * W ≤ x * W := Int.mul_le_mul_of_nonneg_right (by omega) (by omega)
      rw [Int.add_mul] at hlt
      rw [if_pos hr, if_neg (by omega), if_pos (by omega)]
    · have hlt : x * W ≤ r * W := Int.mul_le_mul_of_nonneg_right (by omega) (by omega)
      have hl2 : (r + 1) * W ≤ (n - 1) * W := Int.mul_le_mul_of_nonneg_right (by omega) (by omega)
      rw [Int.add_mul] at hl2
      rw [if_neg hr, if_pos (by omega), if_pos (by omega)]
      congr 1
      rw [Int.add_mul, Int.add_mul]
      omega
  · rw [if_neg hi]
    by_cases hr : r < x
    · rw [if_pos hr, if_neg (by omega)]
    · rw [if_neg hr, if_neg (by omega)]
theorem removeAt_1 (hq : BB q) (h : BK m q b) (h0 : 0 ≤ x) (h1 : x < (b 1).1) (hk : ∀ m', Fr (q + 3) (q + 4) m m' → BK m' q (bSet b 1 (tRem (b 1) x)) → K none (w0 L z X Y) m') : C (d + 2) M_X5_removeAt [(2, q + 3), (0, x)] (w0 L z X Y) m K := by
  have h' := h
  obtain ⟨ht, rfl⟩ := h
  have e : (absB q m 1).1 = m (q + 3) 3 := rfl
  rw [e] at h1
  unfold TBs at ht
  have hw : m (q + 3) 1 = 3 := by omega
  have hq0 : 0 ≤ q := by rcases hq with hq | hq | hq <;> omega
  have hs : 0 ≤ m (q + 3) 3 ∧ m (q + 3) 3 ≤ 8 := by omega
  simp (disch := first | assumption | omega | (simp (disch := omega) only [gU_row, gU_same, gU_i, gCp_row] <;> omega)) only [e_X5_removeAt, s_X5_removeAt_0, s_X5_removeAt_1, s_X5_removeAt_2, s_X5_removeAt_5, s_X5_removeAt_8, s_X5_removeAt_9, s_X5_removeAt_12, s_X5_removeAt_13, s_X5_removeAt_14, s_X5_removeAt_15, s_X5_removeAt_16, s_X5_removeAt_19, s_X5_removeAt_20, s_X5_removeAt_21, s_X5_removeAt_24, s_X5_removeAt_25, s_X5_removeAt_26, s_X5_removeAt_29, s_X5_removeAt_30, s_X5_removeAt_31, s_X5_removeAt_34, s_X5_removeAt_35, s_X5_removeAt_36, s_X5_removeAt_37, s_X5_removeAt_38, s_X5_removeAt_39, s_X5_removeAt_42, s_X5_removeAt_43, s_X5_removeAt_46, s_X5_removeAt_47, s_X5_removeAt_48, s_X5_removeAt_51, s_X5_removeAt_52, s_X5_removeAt_53, s_X5_removeAt_56, Option.toList_some, Option.toList_none, List.cons_append, List.nil_append, List.singleton_append, List.append_nil, true_and, and_true, true_or, or_true, andT, iteT, iteF, itT, itF, has_1 hq h', e, zS_b3 hq, zP_b3_2 hq, zS_b4 hq, hw, iadd_ok, isub_ok, imul_ok, gCp_row]
  refine hk _ (fun a ha => by rw [gU_row (by omega), gCp_row (by omega)]) ⟨?_, ?_⟩
  · unfold TBs
    simp (disch := omega) only [gU_row, gU_same, gU_i, gCp_row]
    omega
  · refine bk_ext ?_ ?_ ?_ ?_ ?_ ?_ (fun t ht => by rw [bSet_ne (by omega), absB_6 ht, absB_6 ht])
    all_goals first
      | (simp (disch := omega) only [absB_0, absB_1, absB_2, absB_3, absB_4, absB_5, bSet_ne, gU_row, gCp_row]; done)
      | (simp (disch := omega) only [absB_0, absB_1, absB_2, absB_3, absB_4, absB_5, bSet_eq, gU_row, gU_same, gCp_rw]
         exact tb_rem (by omega) h0 h1)
theorem removeAt_2 (hq : BB q) (h : BK m q b) (h0 : 0 ≤ x) (h1 : x < (b 2).1) (hk : ∀ m', Fr (q + 5) (q + 6) m m' → BK m' q (bSet b 2 (tRem (b 2) x)) → K none (w0 L z X Y) m') : C (d + 2) M_X5_removeAt [(2, q + 5), (0, x)] (w0 L z X Y) m K := by
  have h' := h
  obtain ⟨ht, rfl⟩ := h
  have e : (absB q m 2).1 = m (q + 5) 3 := rfl
  rw [e] at h1
  unfold TBs at ht
  have hw : m (q + 5) 1 = 6 := by omega
  have hq0 : 0 ≤ q := by rcases hq with hq | hq | hq <;> omega
  have hs : 0 ≤ m (q + 5) 3 ∧ m (q + 5) 3 ≤ 6 := by omega
  simp (disch := first | assumption | omega | (simp (disch := omega) only [gU_row, gU_same, gU_i, gCp_row] <;> omega)) only [e_X5_removeAt, s_X5_removeAt_0, s_X5_removeAt_1, s_X5_removeAt_2, s_X5_removeAt_5, s_X5_removeAt_8, s_X5_removeAt_9, s_X5_removeAt_12, s_X5_removeAt_13, s_X5_removeAt_14, s_X5_removeAt_15, s_X5_removeAt_16, s_X5_removeAt_19, s_X5_removeAt_20, s_X5_removeAt_21, s_X5_removeAt_24, s_X5_removeAt_25, s_X5_removeAt_26, s_X5_removeAt_29, s_X5_removeAt_30, s_X5_removeAt_31, s_X5_removeAt_34, s_X5_removeAt_35, s_X5_removeAt_36, s_X5_removeAt_37, s_X5_removeAt_38, s_X5_removeAt_39, s_X5_removeAt_42, s_X5_removeAt_43, s_X5_removeAt_46, s_X5_removeAt_47, s_X5_removeAt_48, s_X5_removeAt_51, s_X5_removeAt_52, s_X5_removeAt_53, s_X5_removeAt_56, Option.toList_some, Option.toList_none, List.cons_append, List.nil_append, List.singleton_append, List.append_nil, true_and, and_true, true_or, or_true, andT, iteT, iteF, itT, itF, has_2 hq h', e, zS_b5 hq, zP_b5_2 hq, zS_b6 hq, hw, iadd_ok, isub_ok, imul_ok, gCp_row]
  refine hk _ (fun a ha => by rw [gU_row (by omega), gCp_row (by omega)]) ⟨?_, ?_⟩
  · unfold TBs
    simp (disch := omega) only [gU_row, gU_same, gU_i, gCp_row]
    omega
  · refine bk_ext ?_ ?_ ?_ ?_ ?_ ?_ (fun t ht => by rw [bSet_ne (by omega), absB_6 ht, absB_6 ht])
    all_goals first
      | (simp (disch := omega) only [absB_0, absB_1, absB_2, absB_3, absB_4, absB_5, bSet_ne, gU_row, gCp_row]; done)
      | (simp (disch := omega) only [absB_0, absB_1, absB_2, absB_3, absB_4, absB_5, bSet_eq, gU_row, gU_same, gCp_rw]
         exact tb_rem (by omega) h0 h1)
theorem removeAt_3 (hq : BB q) (h : BK m q b) (h0 : 0 ≤ x) (h1 : x < (b 3).1) (hk : ∀ m', Fr (q + 7) (q + 8) m m' → BK m' q (bSet b 3 (tRem (b 3) x)) → K none (w0 L z X Y) m') : C (d + 2) M_X5_removeAt [(2, q + 7), (0, x)] (w0 L z X Y) m K := by
  have h' := h
  obtain ⟨ht, rfl⟩ := h
  have e : (absB q m 3).1 = m (q + 7) 3 := rfl
  rw [e] at h1
  unfold TBs at ht
  have hw : m (q + 7) 1 = 5 := by omega
  have hq0 : 0 ≤ q := by rcases hq with hq | hq | hq <;> omega
  have hs : 0 ≤ m (q + 7) 3 ∧ m (q + 7) 3 ≤ 24 := by omega
  simp (disch := first | assumption | omega | (simp (disch := omega) only [gU_row, gU_same, gU_i, gCp_row] <;> omega)) only [e_X5_removeAt, s_X5_removeAt_0, s_X5_removeAt_1, s_X5_removeAt_2, s_X5_removeAt_5, s_X5_removeAt_8, s_X5_removeAt_9, s_X5_removeAt_12, s_X5_removeAt_13, s_X5_removeAt_14, s_X5_removeAt_15, s_X5_removeAt_16, s_X5_removeAt_19, s_X5_removeAt_20, s_X5_removeAt_21, s_X5_removeAt_24, s_X5_removeAt_25, s_X5_removeAt_26, s_X5_removeAt_29, s_X5_removeAt_30, s_X5_removeAt_31, s_X5_removeAt_34, s_X5_removeAt_35, s_X5_removeAt_36, s_X5_removeAt_37, s_X5_removeAt_38, s_X5_removeAt_39, s_X5_removeAt_42, s_X5_removeAt_43, s_X5_removeAt_46, s_X5_removeAt_47, s_X5_removeAt_48, s_X5_removeAt_51, s_X5_removeAt_52, s_X5_removeAt_53, s_X5_removeAt_56, Option.toList_some, Option.toList_none, List.cons_append, List.nil_append, List.singleton_append, List.append_nil, true_and, and_true, true_or, or_true, andT, iteT, iteF, itT, itF, has_3 hq h', e, zS_b7 hq, zP_b7_2 hq, zS_b8 hq, hw, iadd_ok, isub_ok, imul_ok, gCp_row]
  refine hk _ (fun a ha => by rw [gU_row (by omega), gCp_row (by omega)]) ⟨?_, ?_⟩
  · unfold TBs
    simp (disch := omega) only [gU_row, gU_same, gU_i, gCp_row]
    omega
  · refine bk_ext ?_ ?_ ?_ ?_ ?_ ?_ (fun t ht => by rw [bSet_ne (by omega), absB_6 ht, absB_6 ht])
    all_goals first
      | (simp (disch := omega) only [absB_0, absB_1, absB_2, absB_3, absB_4, absB_5, bSet_ne, gU_row, gCp_row]; done)
      | (simp (disch := omega) only [absB_0, absB_1, absB_2, absB_3, absB_4, absB_5, bSet_eq, gU_row, gU_same, gCp_rw]
         exact tb_rem (by omega) h0 h1)
theorem rput_0 {u : Int} (hq : BB q) (hw : m (q + 1) 1 = 6) (h0 : 0 ≤ x) (h1 : x < 5) (h2 : 0 ≤ y) (h3 : y < 6) : C (d + 1) M_X5_put [(2, q + 1), (0, x), (0, y), (0, u)] (w0 L z X Y) m K = K none (w0 L z X Y) (gU m (q + 2) (x * 6 + y) u) := by
  have hq0 : 0 ≤ q := by rcases hq with hq | hq | hq <;> omega
  rw [put_gen (zS_b1 hq) (zP_b1_2 hq) (zS_b2 hq) (v := x * 6) (n := x * 6 + y) (by rw [hw, imul_ok] <;> omega) (by rw [iadd_ok] <;> omega) (by omega) (by omega) (by omega)]
theorem put_0 {u : Int} (hq : BB q) (h : BK m q b) (h0 : 0 ≤ x) (h1 : x < (b 0).1) (h2 : 0 ≤ y) (h3 : y < 6) (hk : ∀ m', Fr (q + 2) (q + 2) m m' → BK m' q (bSet b 0 (tPut (b 0) x y u)) → K none (w0 L z X Y) m') : C (d + 1) M_X5_put [(2, q + 1), (0, x), (0, y), (0, u)] (w0 L z X Y) m K := by
  have h' := h
  obtain ⟨ht, rfl⟩ := h
  have e : (absB q m 0).1 = m (q + 1) 3 := rfl
  unfold TBs at ht
  rw [rput_0 hq (by omega) h0 (by omega) h2 h3]
  exact hk _ (fun a ha => gU_row (by omega)) (BK_put0 h' h0 h1 h2 h3)
theorem rput_1 {u : Int} (hq : BB q) (hw : m (q + 3) 1 = 3) (h0 : 0 ≤ x) (h1 : x < 8) (h2 : 0 ≤ y) (h3 : y < 3) : C (d + 1) M_X5_put [(2, q + 3), (0, x), (0, y), (0, u)] (w0 L z X Y) m K = K none (w0 L z X Y) (gU m (q + 4) (x * 3 + y) u) := by
  have hq0 : 0 ≤ q := by rcases hq with hq | hq | hq <;> omega
  rw [put_gen (zS_b3 hq) (zP_b3_2 hq) (zS_b4 hq) (v := x * 3) (n := x * 3 + y) (by rw [hw, imul_ok] <;> omega) (by rw [iadd_ok] <;> omega) (by omega) (by omega) (by omega)]
theorem put_1 {u : Int} (hq : BB q) (h : BK m q b) (h0 : 0 ≤ x) (h1 : x < (b 1).1) (h2 : 0 ≤ y) (h3 : y < 3) (hk : ∀ m', Fr (q + 4) (q + 4) m m' → BK m' q (bSet b 1 (tPut (b 1) x y u)) → K none (w0 L z X Y) m') : C (d + 1) M_X5_put [(2, q + 3), (0, x), (0, y), (0, u)] (w0 L z X Y) m K := by
  have h' := h
  obtain ⟨ht, rfl⟩ := h
  have e : (absB q m 1).1 = m (q + 3) 3 := rfl
  unfold TBs at ht
  rw [rput_1 hq (by omega) h0 (by omega) h2 h3]
  exact hk _ (fun a ha => gU_row (by omega)) (BK_put1 h' h0 h1 h2 h3)
theorem rput_2 {u : Int} (hq : BB q) (hw : m (q + 5) 1 = 6) (h0 : 0 ≤ x) (h1 : x < 6) (h2 : 0 ≤ y) (h3 : y < 6) : C (d + 1) M_X5_put [(2, q + 5), (0, x), (0, y), (0, u)] (w0 L z X Y) m K = K none (w0 L z X Y) (gU m (q + 6) (x * 6 + y) u) := by
  have hq0 : 0 ≤ q := by rcases hq with hq | hq | hq <;> omega
  rw [put_gen (zS_b5 hq) (zP_b5_2 hq) (zS_b6 hq) (v := x * 6) (n := x * 6 + y) (by rw [hw, imul_ok] <;> omega) (by rw [iadd_ok] <;> omega) (by omega) (by omega) (by omega)]
theorem put_2 {u : Int} (hq : BB q) (h : BK m q b) (h0 : 0 ≤ x) (h1 : x < (b 2).1) (h2 : 0 ≤ y) (h3 : y < 6) (hk : ∀ m', Fr (q + 6) (q + 6) m m' → BK m' q (bSet b 2 (tPut (b 2) x y u)) → K none (w0 L z X Y) m') : C (d + 1) M_X5_put [(2, q + 5), (0, x), (0, y), (0, u)] (w0 L z X Y) m K := by
  have h' := h
  obtain ⟨ht, rfl⟩ := h
  have e : (absB q m 2).1 = m (q + 5) 3 := rfl
  unfold TBs at ht
  rw [rput_2 hq (by omega) h0 (by omega) h2 h3]
  exact hk _ (fun a ha => gU_row (by omega)) (BK_put2 h' h0 h1 h2 h3)
theorem rput_3 {u : Int} (hq : BB q) (hw : m (q + 7) 1 = 5) (h0 : 0 ≤ x) (h1 : x < 24) (h2 : 0 ≤ y) (h3 : y < 5) : C (d + 1) M_X5_put [(2, q + 7), (0, x), (0, y), (0, u)] (w0 L z X Y) m K = K none (w0 L z X Y) (gU m (q + 8) (x * 5 + y) u) := by
  have hq0 : 0 ≤ q := by rcases hq with hq | hq | hq <;> omega
  rw [put_gen (zS_b7 hq) (zP_b7_2 hq) (zS_b8 hq) (v := x * 5) (n := x * 5 + y) (by rw [hw, imul_ok] <;> omega) (by rw [iadd_ok] <;> omega) (by omega) (by omega) (by omega)]
theorem put_3 {u : Int} (hq : BB q) (h : BK m q b) (h0 : 0 ≤ x) (h1 : x < (b 3).1) (h2 : 0 ≤ y) (h3 : y < 5) (hk : ∀ m', Fr (q + 8) (q + 8) m m' → BK m' q (bSet b 3 (tPut (b 3) x y u)) → K none (w0 L z X Y) m') : C (d + 1) M_X5_put [(2, q + 7), (0, x), (0, y), (0, u)] (w0 L z X Y) m K := by
  have h' := h
  obtain ⟨ht, rfl⟩ := h
  have e : (absB q m 3).1 = m (q + 7) 3 := rfl
  unfold TBs at ht
  rw [rput_3 hq (by omega) h0 (by omega) h2 h3]
  exact hk _ (fun a ha => gU_row (by omega)) (BK_put3 h' h0 h1 h2 h3)
theorem rput_4 {u : Int} (hq : BB q) (hw : m (q + 9) 1 = 2) (h0 : 0 ≤ x) (h1 : x < 4) (h2 : 0 ≤ y) (h3 : y < 2) : C (d + 1) M_X5_put [(2, q + 9), (0, x), (0, y), (0, u)] (w0 L z X Y) m K = K none (w0 L z X Y) (gU m (q + 10) (x * 2 + y) u) := by
  have hq0 : 0 ≤ q := by rcases hq with hq | hq | hq <;> omega
  rw [put_gen (zS_b9 hq) (zP_b9_2 hq) (zS_b10 hq) (v := x * 2) (n := x * 2 + y) (by rw [hw, imul_ok] <;> omega) (by rw [iadd_ok] <;> omega) (by omega) (by omega) (by omega)]
theorem put_4 {u : Int} (hq : BB q) (h : BK m q b) (h0 : 0 ≤ x) (h1 : x < (b 4).1) (h2 : 0 ≤ y) (h3 : y < 2) (hk : ∀ m', Fr (q + 10) (q + 10) m m' → BK m' q (bSet b 4 (tPut (b 4) x y u)) → K none (w0 L z X Y) m') : C (d + 1) M_X5_put [(2, q + 9), (0, x), (0, y), (0, u)] (w0 L z X Y) m K := by
  have h' := h
  obtain ⟨ht, rfl⟩ := h
  have e : (absB q m 4).1 = m (q + 9) 3 := rfl
  unfold TBs at ht
  rw [rput_4 hq (by omega) h0 (by omega) h2 h3]
  exact hk _ (fun a ha => gU_row (by omega)) (BK_put4 h' h0 h1 h2 h3)
theorem rput_5 {u : Int} (hq : BB q) (hw : m (q + 11) 1 = 2) (h0 : 0 ≤ x) (h1 : x < 8) (h2 : 0 ≤ y) (h3 : y < 2) : C (d + 1) M_X5_put [(2, q + 11), (0, x), (0, y), (0, u)] (w0 L z X Y) m K = K none (w0 L z X Y) (gU m (q + 12) (x * 2 + y) u) := by
  have hq0 : 0 ≤ q := by rcases hq with hq | hq | hq <;> omega
  rw [put_gen (zS_b11 hq) (zP_b11_2 hq) (zS_b12 hq) (v := x * 2) (n := x * 2 + y) (by rw [hw, imul_ok] <;> omega) (by rw [iadd_ok] <;> omega) (by omega) (by omega) (by omega)]
theorem put_5 {u : Int} (hq : BB q) (h : BK m q b) (h0 : 0 ≤ x) (h1 : x < (b 5).1) (h2 : 0 ≤ y) (h3 : y < 2) (hk : ∀ m', Fr (q + 12) (q + 12) m m' → BK m' q (bSet b 5 (tPut (b 5) x y u)) → K none (w0 L z X Y) m') : C (d + 1) M_X5_put [(2, q + 11), (0, x), (0, y), (0, u)] (w0 L z X Y) m K := by
  have h' := h
  obtain ⟨ht, rfl⟩ := h
  have e : (absB q m 5).1 = m (q + 11) 3 := rfl
  unfold TBs at ht
  rw [rput_5 hq (by omega) h0 (by omega) h2 h3]
  exact hk _ (fun a ha => gU_row (by omega)) (BK_put5 h' h0 h1 h2 h3)
theorem tb_grow {n W : Int} {f f' : Int → Int} (hW : 0 < W) (h0 : 0 ≤ n) (h1 : ∀ c, 0 ≤ c → c < W → f' (n * W + c) = 0) (h2 : ∀ i, i < n * W → f' i = f i) : tb (n + 1) W f' = tGrow (tb n W f) := by
  unfold tb tGrow
  congr 1
  funext r c
  show (if _ then _ else _) = (if _ then _ else _)
  by_cases hi : 0 ≤ r ∧ r < n ∧ 0 ≤ c ∧ c < W
  · have hl2 : (r + 1) * W ≤ n * W := Int.mul_le_mul_of_nonneg_right (by omega) (by omega)
    rw [Int.add_mul] at hl2
    rw [if_pos (by omega), if_pos hi, h2 _ (by omega)]
  · rw [if_neg hi]
    by_cases hi2 : 0 ≤ r ∧ r < n + 1 ∧ 0 ≤ c ∧ c < W
    · rw [if_pos hi2]
      have : r = n := by omega
      subst this
      exact h1 c (by omega) (by omega)
    · rw [if_neg hi2]
end TAB
