/-! THE WORLD that the constructors make is the world of part 31. -/
def ptL : List WO → Int → List (Int × Int)
  | [], _ => []
  | .inl (c, _, _) :: l, a => if a = c then [] else ptL l a
  | .inr (.inl (c, _, n, _)) :: l, a => if a = c then (List.range' 0 n).map (fun (q : Nat) => ((q : Int), c + 1 + (q : Int))) else if c < a ∧ a ≤ c + n then [] else ptL l a
  | .inr (.inr (b, j, v)) :: l, a => if a = b then (j, v) :: ptL l a else ptL l a
theorem pGet_rng (c : Int) : ∀ (n s : Nat) (i : Int), pGet ((List.range' s n).map (fun (q : Nat) => ((q : Int), c + (q : Int)))) i = if (s : Int) ≤ i ∧ i < (s : Int) + n then c + i else -1
  | 0, s, i => by
    rw [if_neg (by omega)]; rfl
  | n + 1, s, i => by
    show pGet (((s : Int), c + (s : Int)) :: (List.range' (s + 1) n).map _) i = _
    rw [pGet]
    by_cases h : i = s
    · rw [if_pos h, if_pos (by omega), h]
    · rw [if_neg h, pGet_rng c n (s + 1) i]
      by_cases h2 : ((s + 1 : Nat) : Int) ≤ i ∧ i < ((s + 1 : Nat) : Int) + n
      · rw [if_pos h2, if_pos (by omega)]
      · rw [if_neg h2, if_neg (by omega)]
theorem ptO_L : ∀ (l : List WO) (a i d : Int), shO l a ≠ none → (ptO l a i).getD d = pGet (ptL l a) i
  | [], _, _, _, h => absurd rfl h
  | .inl (c, kd, n) :: l, a, i, d, h => by
    rw [shO] at h
    rw [ptO, ptL]
    by_cases h1 : a = c
    · rw [if_pos h1, if_pos h1]; rfl
    · rw [if_neg h1] at h
      rw [if_neg h1, if_neg h1]
      exact ptO_L l a i d h
  | .inr (.inl (c, kd, n, k)) :: l, a, i, d, h => by
    rw [shO] at h
    rw [ptO, ptL]
    by_cases h1 : a = c
    · rw [if_pos h1, if_pos h1, pGet_rng (c + 1) n 0 i]
      show (if _ then _ else _) = _
      by_cases h2 : 0 ≤ i ∧ i < (n : Int)
      · rw [if_pos h2, if_pos (by omega)]
      · rw [if_neg h2, if_neg (by omega)]
    · rw [if_neg h1] at h
      rw [if_neg h1, if_neg h1]
      by_cases h2 : c < a ∧ a ≤ c + n
      · rw [if_pos h2, if_pos h2]; rfl
      · rw [if_neg h2] at h
        rw [if_neg h2, if_neg h2]
        exact ptO_L l a i d h
  | .inr (.inr (b, j, v)) :: l, a, i, d, h => by
    rw [shO] at h
    rw [ptO, ptL]
    by_cases h1 : a = b
    · rw [if_pos h1, pGet]
      by_cases h2 : i = j
      · rw [if_pos ⟨h1, h2⟩, if_pos h2]; rfl
      · rw [if_neg (fun h => h2 h.2), if_neg h2]
        exact ptO_L l a i d h
    · rw [if_neg h1, if_neg (fun h => h1 h.1)]
      exact ptO_L l a i d h
theorem cnO_le (c0 : Int) : ∀ l, c0 ≤ cnO c0 l
  | [] => Int.le_refl _
  | .inl (_, _, _) :: l => by
    have := cnO_le c0 l
    show c0 ≤ cnO c0 l + 1
    omega
  | .inr (.inl (_, _, n, _)) :: l => by
    have := cnO_le c0 l
    show c0 ≤ cnO c0 l + 1 + n
    omega
  | .inr (.inr (_, _, _)) :: l => cnO_le c0 l
theorem out_O {c0 a : Int} : ∀ (l : List WO), okO c0 l = true → (a < c0 ∨ cnO c0 l ≤ a) → shO l a = none ∧ ∀ i, ptO l a i = none
  | [], _, _ => ⟨rfl, fun _ => rfl⟩
  | .inl (c, kd, n) :: l, h, ha => by
    rw [okO, Bool.and_eq_true, decide_eq_true_eq] at h
    have := cnO_le c0 l
    have ha : a < c0 ∨ cnO c0 l + 1 ≤ a := ha
    have h1 := out_O (a := a) l h.2 (by omega)
    refine ⟨?_, fun i => ?_⟩
    · rw [shO, if_neg (by omega)]; exact h1.1
    · rw [ptO, if_neg (by omega)]; exact h1.2 i
  | .inr (.inl (c, kd, n, k)) :: l, h, ha => by
    rw [okO, Bool.and_eq_true, decide_eq_true_eq] at h
    have := cnO_le c0 l
    have ha : a < c0 ∨ cnO c0 l + 1 + n ≤ a := ha
    have h1 := out_O (a := a) l h.2 (by omega)
    refine ⟨?_, fun i => ?_⟩
    · rw [shO, if_neg (by omega), if_neg (by omega)]; exact h1.1
    · rw [ptO, if_neg (by omega), if_neg (by omega)]; exact h1.2 i
  | .inr (.inr (b, j, v)) :: l, h, ha => by
    rw [okO, Bool.and_eq_true, decide_eq_true_eq] at h
    have ha : a < c0 ∨ cnO c0 l ≤ a := ha
    have h1 := out_O (a := a) l h.2 ha
    refine ⟨h1.1, fun i => ?_⟩
    rw [ptO, if_neg (by omega)]
    exact h1.2 i
theorem pGet_in : ∀ (l : List (Int × Int)) (i : Int), pGet l i = -1 ∨ (i, pGet l i) ∈ l
  | [], _ => Or.inl rfl
  | (j, v) :: l, i => by
    rw [pGet]
    by_cases h : i = j
    · rw [if_pos h, h]; exact Or.inr List.mem_cons_self
    · rw [if_neg h]
      rcases pGet_in l i with h1 | h1
      · exact Or.inl h1
      · exact Or.inr (List.mem_cons_of_mem _ h1)
def sub1 (l l' : List (Int × Int)) : Bool := l.all (fun p => decide (pGet l' p.1 = p.2))
theorem pGet_eq {l l' : List (Int × Int)} (h : sub1 l l' = true) (h' : sub1 l' l = true) (i : Int) : pGet l i = pGet l' i := by
  unfold sub1 at h h'
  rw [List.all_eq_true] at h h'
  rcases pGet_in l i with h1 | h1
  · rcases pGet_in l' i with h2 | h2
    · rw [h1, h2]
    · have := h' _ h2
      rw [decide_eq_true_eq] at this
      exact this
  · have := h _ h1
    rw [decide_eq_true_eq] at this
    exact this.symm
/-- what stands in the table of part 31, the class's two Reckonings with it -/
def tP1 (k : Nat) : List (Int × Int) := if k = 0 then (0, 1) :: (1, 88) :: tPt.getD 0 [] else tPt.getD k []
def isTab (l : List WO) (s n : Nat) : Bool := (List.range' s n).all (fun k => decide (shO l k = some (tSh.getD k (99, 0))) && (sub1 (ptL l k) (tP1 k) && sub1 (tP1 k) (ptL l k)))
theorem wR_tab {s n : Nat} {l : List WO} {w : gW} (hw : (w.1 : Int) = (s : Int)) (hok : okO s l = true) (hcn : cnO s l = (s : Int) + n) (ht : isTab l s n = true) : (∀ a, (s : Int) ≤ a → a < (s : Int) + n → wS (wR l w) a = tSh.getD a.toNat (99, 0) ∧ ∀ i, wP (wR l w) a i = pGet (tP1 a.toNat) i) ∧ ∀ a, (a < (s : Int) ∨ (s : Int) + n ≤ a) → wS (wR l w) a = wS w a ∧ ∀ i, wP (wR l w) a i = wP w a i := by
  obtain ⟨-, -, h3, h4⟩ := wR_ev hw l hok
  refine ⟨fun a a0 a1 => ?_, fun a ha => ?_⟩
  · unfold isTab at ht
    rw [List.all_eq_true] at ht
    have := ht a.toNat (List.mem_range'_1.2 (by omega))
    rw [Bool.and_eq_true, Bool.and_eq_true, decide_eq_true_eq, show ((a.toNat : Nat) : Int) = a by omega] at this
    obtain ⟨g1, g2, g3⟩ := this
    refine ⟨by rw [h3, g1]; rfl, fun i => ?_⟩
    rw [h4, ptO_L l a i _ (by rw [g1]; simp)]
    exact pGet_eq g2 g3 i
  · obtain ⟨g1, g2⟩ := out_O l hok (a := a) (by omega)
    exact ⟨by rw [h3, g1]; rfl, fun i => by rw [h4, g2 i]; rfl⟩
def wE (L : Nat) (z : Int) : gW := (0, 0, ssL L, spZ z)
theorem gW_ext {w w' : gW} (h1 : w.1 = w'.1) (h2 : w.2.1 = w'.2.1) (h3 : ∀ a, wS w a = wS w' a) (h4 : ∀ a i, wP w a i = wP w' a i) : w = w' := by
  obtain ⟨a, b, c, d⟩ := w
  obtain ⟨a', b', c', d'⟩ := w'
  have h1 : a = a' := h1
  have h2 : b = b' := h2
  have h3 : c = c' := funext h3
  have h4 : d = d' := funext fun x => funext (h4 x)
  rw [h1, h2, h3, h4]
theorem oX7_ok : okO 0 oX7 = true ∧ cnO 0 oX7 = 213 ∧ szO oX7 = 2500 ∧ isTab oX7 0 213 = true := by decide +kernel
theorem oX8_ok : okO 213 oX8 = true ∧ cnO 213 oX8 = 244 ∧ szO oX8 = 2684 ∧ isTab oX8 213 31 = true := by decide +kernel
theorem wE_X7 {L : Nat} {z : Int} : wR oX7 (wE L z) = w0 L (2 * z) 1 88 := by
  obtain ⟨o1, o2, o3, o4⟩ := oX7_ok
  obtain ⟨e1, e2, -, -⟩ := wR_ev (c0 := 0) (w := wE L z) rfl oX7 o1
  obtain ⟨t1, t2⟩ := wR_tab (s := 0) (n := 213) (w := wE L z) rfl o1 o2 o4
  have z2 : 2 * z % 2 = 0 := by omega
  have z3 : 2 * z / 2 = z := by omega
  refine gW_ext ?_ ?_ (fun a => ?_) (fun a i => ?_)
  · show _ = if 2 * z % 2 = 0 then 213 else 244
    rw [if_pos z2]; omega
  · show _ = if 2 * z % 2 = 0 then 2500 else 5184
    rw [if_pos z2, e2, o3]; rfl
  · show _ = if 0 ≤ a ∧ a < 213 then tSh.getD a.toNat (99, 0) else if (213 ≤ a ∧ a < 244) ∧ ¬ 2 * z % 2 = 0 then tSh.getD a.toNat (99, 0) else ssL L a
    by_cases h : 0 ≤ a ∧ a < 213
    · rw [if_pos h]; exact (t1 a (by omega) (by omega)).1
    · rw [if_neg h, if_neg (fun h => h.2 z2)]; exact (t2 a (by omega)).1
  · show _ = if a = 0 ∧ i = 0 then 1 else if a = 0 ∧ i = 1 then 88 else if 0 ≤ a ∧ a < 213 then pGet (tPt.getD a.toNat []) i else if (213 ≤ a ∧ a < 244) ∧ ¬ 2 * z % 2 = 0 then pGet (tPt.getD a.toNat []) i else spZ (2 * z / 2) a i
    by_cases h : 0 ≤ a ∧ a < 213
    · rw [(t1 a (by omega) (by omega)).2 i, if_pos h]
      unfold tP1
      by_cases h0 : a = 0
      · subst h0
        rw [if_pos (show Int.toNat 0 = 0 from rfl), pGet, pGet]
        by_cases i0 : i = 0
        · rw [if_pos i0, if_pos ⟨rfl, i0⟩]
        · rw [if_neg i0, if_neg (fun h : (0 : Int) = 0 ∧ i = 0 => i0 h.2)]
          by_cases i1 : i = 1
          · rw [if_pos i1, if_pos ⟨rfl, i1⟩]
          · rw [if_neg i1, if_neg (fun h : (0 : Int) = 0 ∧ i = 1 => i1 h.2)]; rfl
      · rw [if_neg (by omega), if_neg (fun h => h0 h.1), if_neg (fun h => h0 h.1)]
    · rw [(t2 a (by omega)).2 i, if_neg (by omega), if_neg (by omega), if_neg h, if_neg (fun h => h.2 z2), z3]; rfl
theorem w0_X8 {L : Nat} {z : Int} : wR oX8 (w0 L (2 * z) 1 88) = w0 L (2 * z + 1) 1 88 := by
  obtain ⟨o1, o2, o3, o4⟩ := oX8_ok
  have z2 : 2 * z % 2 = 0 := by omega
  have z3 : 2 * z / 2 = z := by omega
  have z4 : ¬ (2 * z + 1) % 2 = 0 := by omega
  have z5 : (2 * z + 1) / 2 = z := by omega
  have e0 : (w0 L (2 * z) 1 88).1 = 213 := by
    show (if 2 * z % 2 = 0 then 213 else 244) = 213
    rw [if_pos z2]
  have e0' : (w0 L (2 * z) 1 88).2.1 = 2500 := by
    show (if 2 * z % 2 = 0 then 2500 else 5184) = 2500
    rw [if_pos z2]
  obtain ⟨e1, e2, -, -⟩ := wR_ev (c0 := 213) (w := w0 L (2 * z) 1 88) (by rw [e0]; rfl) oX8 o1
  obtain ⟨t1, t2⟩ := wR_tab (s := 213) (n := 31) (w := w0 L (2 * z) 1 88) (by rw [e0]) o1 o2 o4
  refine gW_ext ?_ ?_ (fun a => ?_) (fun a i => ?_)
  · show _ = if (2 * z + 1) % 2 = 0 then 213 else 244
    rw [if_neg z4]; omega
  · show _ = if (2 * z + 1) % 2 = 0 then 2500 else 5184
    rw [if_neg z4, e2, e0', o3]
  · show _ = if 0 ≤ a ∧ a < 213 then tSh.getD a.toNat (99, 0) else if (213 ≤ a ∧ a < 244) ∧ ¬ (2 * z + 1) % 2 = 0 then tSh.getD a.toNat (99, 0) else ssL L a
    by_cases h : 213 ≤ a ∧ a < 244
    · rw [if_neg (by omega), if_pos ⟨h, z4⟩]; exact (t1 a (by omega) (by omega)).1
    · rw [(t2 a (by omega)).1]
      show (if 0 ≤ a ∧ a < 213 then _ else if (213 ≤ a ∧ a < 244) ∧ ¬ 2 * z % 2 = 0 then _ else _) = _
      by_cases h5 : 0 ≤ a ∧ a < 213
      · rw [if_pos h5, if_pos h5]
      · rw [if_neg h5, if_neg h5, if_neg (fun h' : (213 ≤ a ∧ a < 244) ∧ ¬ 2 * z % 2 = 0 => h h'.1), if_neg (fun h' : (213 ≤ a ∧ a < 244) ∧ ¬ (2 * z + 1) % 2 = 0 => h h'.1)]
  · show _ = if a = 0 ∧ i = 0 then 1 else if a = 0 ∧ i = 1 then 88 else if 0 ≤ a ∧ a < 213 then pGet (tPt.getD a.toNat []) i else if (213 ≤ a ∧ a < 244) ∧ ¬ (2 * z + 1) % 2 = 0 then pGet (tPt.getD a.toNat []) i else spZ ((2 * z + 1) / 2) a i
    by_cases h : 213 ≤ a ∧ a < 244
    · rw [(t1 a (by omega) (by omega)).2 i, if_neg (by omega), if_neg (by omega), if_neg (by omega), if_pos ⟨h, z4⟩]
      unfold tP1
      rw [if_neg (by omega)]
    · rw [(t2 a (by omega)).2 i, z5]
      show (if a = 0 ∧ i = 0 then _ else if a = 0 ∧ i = 1 then _ else if 0 ≤ a ∧ a < 213 then _ else if (213 ≤ a ∧ a < 244) ∧ ¬ 2 * z % 2 = 0 then _ else spZ (2 * z / 2) a i) = _
      by_cases h6 : a = 0 ∧ i = 0
      · rw [if_pos h6, if_pos h6]
      · rw [if_neg h6, if_neg h6]
        by_cases h7 : a = 0 ∧ i = 1
        · rw [if_pos h7, if_pos h7]
        · rw [if_neg h7, if_neg h7]
          by_cases h5 : 0 ≤ a ∧ a < 213
          · rw [if_pos h5, if_pos h5]
          · rw [if_neg h5, if_neg h5, if_neg (fun h' : (213 ≤ a ∧ a < 244) ∧ ¬ 2 * z % 2 = 0 => h h'.1), if_neg (fun h' : (213 ≤ a ∧ a < 244) ∧ ¬ (2 * z + 1) % 2 = 0 => h h'.1), z3]
