/-! PLAIN NUMBERS of a book. -/
def td (a b : Int) : Int := if 0 ≤ a then a / b else -((-a) / b)
theorem td_eq {a b : Int} (hb : 0 < b) : a.tdiv b = td a b := by
  unfold td
  split
  · rename_i h
    exact Int.tdiv_eq_ediv_of_nonneg h
  · rename_i h
    have : a = -(-a) := by omega
    rw [this, Int.neg_tdiv, Int.tdiv_eq_ediv_of_nonneg (by omega)]
    simp
theorem div_bd {a b : Int} (hb : 0 < b) (ha : 0 ≤ a) : 0 ≤ a / b ∧ a / b ≤ a := ⟨Int.ediv_nonneg ha (by omega), Int.ediv_le_self _ ha⟩
theorem td_bd {a b : Int} (hb : 0 < b) : (0 ≤ a → 0 ≤ td a b ∧ td a b ≤ a) ∧ (a ≤ 0 → a ≤ td a b ∧ td a b ≤ 0) := by
  unfold td
  constructor
  · intro h
    rw [if_pos h]
    exact div_bd hb h
  · intro h
    by_cases h0 : 0 ≤ a
    · have : a = 0 := by omega
      subst this
      simp
    · rw [if_neg h0]
      have := div_bd (a := -a) hb (by omega)
      omega
theorem idiv_lit {a b : Int} (h1 : -2147483648 ≤ a) (h2 : a ≤ 2147483647) (h3 : 0 < b) (h4 : b ≤ 2147483647) : idiv a b = td a b := by
  have h := td_bd (a := a) h3
  have e := td_eq (a := a) h3
  have ho : okI (td a b) := by
    rcases Int.le_total 0 a with q | q
    · have := h.1 q
      exact ⟨by omega, by omega⟩
    · have := h.2 q
      exact ⟨by omega, by omega⟩
  rw [idiv_ok ⟨h1, h2⟩ ⟨by omega, h4⟩ (by rw [e]; exact ho), e]
theorem ldiv_lit {a b : Int} (h1 : -9223372036854775808 ≤ a) (h2 : a ≤ 9223372036854775807) (h3 : 0 < b) (h4 : b ≤ 9223372036854775807) : ldiv a b = td a b := by
  have h := td_bd (a := a) h3
  have e := td_eq (a := a) h3
  have ho : okL (td a b) := by
    rcases Int.le_total 0 a with q | q
    · have := h.1 q
      exact ⟨by omega, by omega⟩
    · have := h.2 q
      exact ⟨by omega, by omega⟩
  rw [ldiv_ok ⟨h1, h2⟩ ⟨by omega, h4⟩ (by rw [e]; exact ho), e]
theorem td_nn {a b : Int} (h : 0 ≤ a) : td a b = a / b := if_pos h
theorem mul_bd {a b : Int} (A B : Int) (h1 : -A ≤ a) (h2 : a ≤ A) (h3 : -B ≤ b) (h4 : b ≤ B) : -(A * B) ≤ a * b ∧ a * b ≤ A * B := by
  have e : (a * b).natAbs = a.natAbs * b.natAbs := Int.natAbs_mul a b
  have hA : a.natAbs ≤ A.natAbs := by omega
  have hB : b.natAbs ≤ B.natAbs := by omega
  have h := Nat.mul_le_mul hA hB
  have e2 : (A * B).natAbs = A.natAbs * B.natAbs := Int.natAbs_mul A B
  have e3 : 0 ≤ A * B := Int.mul_nonneg (by omega) (by omega)
  omega
def WfG (b : Bk) : Prop := ∀ g, 0 ≤ g → g < 5 → (1 ≤ (b 0).2 g 0 ∧ (b 0).2 g 0 ≤ 999) ∧ (0 ≤ (b 0).2 g 1 ∧ (b 0).2 g 1 ≤ 99) ∧ (1 ≤ (b 0).2 g 2 ∧ (b 0).2 g 2 ≤ 1000000) ∧ (0 ≤ (b 0).2 g 3 ∧ (b 0).2 g 3 ≤ 99) ∧ (0 ≤ (b 0).2 g 4 ∧ (b 0).2 g 4 ≤ 99) ∧ (0 ≤ (b 0).2 g 5 ∧ (b 0).2 g 5 ≤ 99)
def WfM (b : Bk) : Prop := ∀ j, 0 ≤ j → j < (b 1).1 → (-99 ≤ (b 1).2 j 0 ∧ (b 1).2 j 0 ≤ 99) ∧ (-9 ≤ (b 1).2 j 1 ∧ (b 1).2 j 1 ≤ 9) ∧ (0 ≤ (b 1).2 j 2 ∧ (b 1).2 j 2 ≤ 100)
def WfO (b : Bk) : Prop := ∀ o, 0 ≤ o → o < (b 2).1 → (0 ≤ (b 2).2 o 0 ∧ (b 2).2 o 0 < 5) ∧ (0 ≤ (b 2).2 o 1 ∧ (b 2).2 o 1 < 5) ∧ (b 2).2 o 0 ≠ (b 2).2 o 1 ∧ (1 ≤ (b 2).2 o 2 ∧ (b 2).2 o 2 ≤ 9) ∧ (1 ≤ (b 2).2 o 3 ∧ (b 2).2 o 3 ≤ 9) ∧ (0 ≤ (b 2).2 o 4 ∧ (b 2).2 o 4 ≤ 1) ∧ (0 ≤ (b 2).2 o 5 ∧ (b 2).2 o 5 ≤ 100)
def WfL (b : Bk) : Prop := ∀ l, 0 ≤ l → l < (b 3).1 → (0 ≤ (b 3).2 l 0 ∧ (b 3).2 l 0 < 5) ∧ (0 ≤ (b 3).2 l 1 ∧ (b 3).2 l 1 < 5) ∧ (0 ≤ (b 3).2 l 2 ∧ (b 3).2 l 2 < 6) ∧ (0 ≤ (b 3).2 l 3 ∧ (b 3).2 l 3 ≤ 999)
def WfQ (b : Bk) : Prop := ∀ l, 0 ≤ l → l < (b 3).1 → -2147483648 ≤ (b 3).2 l 4 ∧ (b 3).2 l 4 ≤ 2147483647
def pMny (k s p : Int) : Int := if k = 0 then p else if k = 1 then max (p - s) 0 else if k = 2 then max (s - p) 0 else if k = 3 then min (max (p - s) 0) 9 else max (s - p) 0 + max (p - s) 0
def pWorth (b : Bk) (l p u : Int) : Int := if (b 3).2 l 1 = 0 then p else pMny ((b 3).2 l 1) ((b 3).2 l 3) p + (max (u * ((b 3).2 l 2 + 1) - ab (p - (b 3).2 l 3)) 0) / 2
def pPrice (b : Bk) (g j : Int) : Int := if 0 ≤ j ∧ j < (b 1).1 then max ((b 0).2 g 0 + td ((b 1).2 j 0 * (b 0).2 g 3) 10) 1 else (b 0).2 g 0
def pUnr (b : Bk) (g j : Int) : Int := if 0 ≤ j ∧ j < (b 1).1 then max ((b 0).2 g 1 + (b 1).2 j 1) 0 else (b 0).2 g 1
theorem pPrice_bd {b : Bk} {g j : Int} (hg : WfG b) (hm : WfM b) (h0 : 0 ≤ g) (h1 : g < 5) : 1 ≤ pPrice b g j ∧ pPrice b g j ≤ 1980 := by
  have a := hg g h0 h1
  unfold pPrice
  split
  · rename_i h
    have c := hm j h.1 h.2
    have e := mul_bd (a := (b 1).2 j 0) (b := (b 0).2 g 3) 99 99 (by omega) (by omega) (by omega) (by omega)
    have f : td ((b 1).2 j 0 * (b 0).2 g 3) 10 ≤ 981 := by
      unfold td
      split <;> omega
    omega
  · omega
theorem pUnr_bd {b : Bk} {g j : Int} (hg : WfG b) (hm : WfM b) (h0 : 0 ≤ g) (h1 : g < 5) : 0 ≤ pUnr b g j ∧ pUnr b g j ≤ 108 := by
  have a := hg g h0 h1
  unfold pUnr
  split
  · rename_i h
    have c := hm j h.1 h.2
    omega
  · omega
theorem pMny_bd {k s p : Int} (h0 : 0 ≤ s) (h1 : s ≤ 999) (h2 : 0 ≤ p) (h3 : p ≤ 1981) : 0 ≤ pMny k s p ∧ pMny k s p ≤ 1981 := by
  unfold pMny
  repeat' split
  all_goals omega
theorem pWorth_bd {b : Bk} {l p u : Int} (hl : WfL b) (h0 : 0 ≤ l) (h1 : l < (b 3).1) (h2 : 0 ≤ p) (h3 : p ≤ 1981) (h4 : 0 ≤ u) (h5 : u ≤ 108) : 0 ≤ pWorth b l p u ∧ pWorth b l p u ≤ 2400 := by
  have a := hl l h0 h1
  unfold pWorth
  split
  · omega
  · have e := mul_bd (a := u) (b := (b 3).2 l 2 + 1) 108 6 (by omega) (by omega) (by omega) (by omega)
    have f := ab_nn (p - (b 3).2 l 3)
    have g := pMny_bd (k := (b 3).2 l 1) (s := (b 3).2 l 3) (p := p) (by omega) (by omega) (by omega) (by omega)
    omega
