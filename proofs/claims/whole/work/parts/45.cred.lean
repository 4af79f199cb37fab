/-! CREDITS, plainly; what all orders share. -/
def pSu (b : Bk) (o : Int) : Int := if pDel b ((b 2).2 o 0) ≠ 0 ∧ pDel b ((b 2).2 o 1) ≠ 0 ∧ ((0 < pDel b ((b 2).2 o 0) ↔ 0 < pDel b ((b 2).2 o 1)) ↔ (b 2).2 o 4 = 1) then 1 else 0
def pPay (b : Bk) (o : Int) : Int := (b 2).2 o 2 * pPer b ((b 2).2 o 0) + (b 2).2 o 3 * pPer b ((b 2).2 o 1)
def pPy (b : Bk) (o : Int) : Int := if pSu b o = 1 then pPay b o else 0
def pTm (b : Bk) (x : Int → Int) (o : Int) : Int := if pSu b o = 1 then min (x ((b 2).2 o 0) / (10 * (b 2).2 o 2)) (x ((b 2).2 o 1) / (10 * (b 2).2 o 3)) else 0
def pX0 (b : Bk) (g : Int) : Int := ab (pDel b g)
def OffOk (b : Bk) (o : Int) : Prop := pSu b o = 1 → okI ((b 2).2 o 2 * pPer b ((b 2).2 o 0)) ∧ okI ((b 2).2 o 3 * pPer b ((b 2).2 o 1)) ∧ okI (pPay b o) ∧ okI (pTm b (pX0 b) o * pPay b o) ∧ okI (pTm b (pX0 b) o * pPay b o * (b 2).2 o 5)
/-- what of the offsets is laid -/
def CU (m : gM) (r : Int) (b : Bk) (n : Int) : Prop := ∀ o, 0 ≤ o → o < n → m (r + 19) o = (b 2).2 o 0 ∧ m (r + 20) o = (b 2).2 o 1 ∧ m (r + 21) o = 10 * (b 2).2 o 2 ∧ m (r + 22) o = 10 * (b 2).2 o 3 ∧ m (r + 24) o = (b 2).2 o 5 ∧ m (r + 26) o = 0
def CV (m : gM) (r : Int) (b : Bk) (n : Int) : Prop := ∀ o, 0 ≤ o → o < n → m (r + 25) o = pSu b o ∧ m (r + 23) o = pPy b o ∧ OffOk b o
theorem QS_fr {m m' : gM} {r : Int} {b : Bk} (h : QS m r b) (h3 : (b 3).1 ≤ 24) (h1 : ∀ a, (a < r + 14 ∨ r + 28 < a) → a ≠ r + 86 → m' a = m a) : QS m' r b := by
  obtain ⟨hC, hA, t1, t2, t3, t4⟩ := h
  refine ⟨?_, hA, ?_, ?_, ?_, ?_⟩
  · obtain ⟨⟨q1, q2, q3, q4, q5, q6⟩, hg⟩ := hC
    refine ⟨⟨fun g j g0 g1 j0 j1 => ?_, fun g e g0 g1 e0 e1 => ?_, fun g g0 g1 => ?_, fun l j l0 l1 j0 j1 => ?_, fun l l0 l1 => ?_, q6⟩, fun g g0 g1 => ?_⟩
    · rw [h1 _ (by omega) (by omega)]; exact q1 g j g0 g1 j0 j1
    · rw [h1 _ (by omega) (by omega)]; exact q2 g e g0 g1 e0 e1
    · rw [h1 _ (by omega) (by omega)]; exact q3 g g0 g1
    · rw [h1 _ (by omega) (by omega)]; exact q4 l j l0 l1 j0 j1
    · rw [h1 _ (by omega) (by omega)]; exact q5 l l0 l1
    · rw [h1 _ (by omega) (by omega), h1 _ (by omega) (by omega), h1 _ (by omega) (by omega), h1 _ (by omega) (by omega)]
      exact hg g g0 g1
  · rw [h1 _ (by omega) (by omega)]; exact t1
  · rw [h1 _ (by omega) (by omega)]; exact t2
  · rw [h1 _ (by omega) (by omega)]; exact t3
  · rw [h1 _ (by omega) (by omega)]; exact t4
section CRED
variable {L d N : Nat} {z X Y q r x y v t c g j k e s o : Int} {w : gW} {m : gM} {K : Option gV → gW → gM → Prop} {b b' : Bk} {xs : Int → Int} {F Q : Prop} {n : Nat}
theorem c_areSo : C (d + 1) M_X1_areSo [(1, x), (1, y), (0, s)] w m K = K (some (0, if x ≠ 0 ∧ y ≠ 0 ∧ ((0 < x ↔ 0 < y) ↔ s = 1) then 1 else 0)) w m := by
  have h3 : x < 0 ∨ x = 0 ∨ 0 < x := by omega
  have h4 : y < 0 ∨ y = 0 ∨ 0 < y := by omega
  by_cases h5 : s = 1 <;> rcases h3 with h3 | h3 | h3 <;> rcases h4 with h4 | h4 | h4
  all_goals
    simp (disch := first | assumption | omega | (simp (disch := omega) only [gU_row, gU_same, gU_i, gCp_row] <;> omega)) only [e_X1_areSo, s_X1_areSo_0, s_X1_areSo_1, s_X1_areSo_2, s_X1_areSo_3, s_X1_areSo_6, s_X1_areSo_7, s_X1_areSo_10, s_X1_areSo_11, s_X1_areSo_12, s_X1_areSo_13, s_X1_areSo_14, s_X1_areSo_17, s_X1_areSo_18, s_X1_areSo_21, s_X1_areSo_22, s_X1_areSo_25, s_X1_areSo_26, s_X1_areSo_29, s_X1_areSo_30, s_X1_areSo_32, s_X1_areSo_33, s_X1_areSo_34, s_X1_areSo_35, s_X1_areSo_38, s_X1_areSo_39, s_X1_areSo_40, s_X1_areSo_41, s_X1_areSo_44, s_X1_areSo_46, s_X1_areSo_48, s_X1_areSo_49, s_X1_areSo_52, s_X1_areSo_53, s_X1_areSo_56, s_X1_areSo_57, s_X1_areSo_60, s_X1_areSo_61, s_X1_areSo_64, s_X1_areSo_65, ↓reduceIte, Option.toList_some, Option.toList_none, List.cons_append, List.nil_append, List.singleton_append, List.append_nil, true_and, and_true, true_or, or_true, andT, iteT, iteF, itT, itF, lcmp_le, lcmp_eq, ne_eq, not_true_eq_false, not_false_eq_true]
    try simp [h3, h4, h5]
    try omega
end CRED
