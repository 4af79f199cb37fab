/-! ORDERS by their number. -/
def fac : Nat → Nat
  | 0 => 1
  | n + 1 => (n + 1) * fac n
theorem fac_pos : ∀ n : Nat, 0 < fac n := by
  intro n
  induction n with
  | zero => exact Nat.one_pos
  | succ n ih => exact Nat.mul_pos (Nat.succ_pos n) ih
theorem flat_len {f : Int → List (List Int)} {c : Nat} : ∀ l : List Int, (∀ o, o ∈ l → (f o).length = c) → (l.flatMap f).length = l.length * c := by
  intro l
  induction l with
  | nil => intro _; simp
  | cons o l ih =>
    intro h
    rw [List.flatMap_cons, List.length_append, ih (fun o' ho => h o' (by simp [ho])), h o (by simp), List.length_cons, Nat.add_mul]
    omega
theorem flat_get {f : Int → List (List Int)} {c : Nat} (hc : 0 < c) : ∀ (l : List Int) (i : Nat), (∀ o, o ∈ l → (f o).length = c) → i < l.length * c → (l.flatMap f).getD i [] = (f (l.getD (i / c) 0)).getD (i % c) [] := by
  intro l
  induction l with
  | nil => intro i _ h; simp at h
  | cons o l ih =>
    intro i h hi
    have ho := h o (by simp)
    rw [List.flatMap_cons]
    by_cases hlt : i < c
    · rw [Nat.div_eq_of_lt hlt, Nat.mod_eq_of_lt hlt]
      rw [List.getD_eq_getElem?_getD, List.getElem?_append_left (by omega)]
      rfl
    · have e1 : i / c = (i - c) / c + 1 := by rw [Nat.div_eq_sub_div hc (by omega)]
      have e2 : i % c = (i - c) % c := Nat.mod_eq_sub_mod (by omega)
      rw [List.getD_eq_getElem?_getD, List.getElem?_append_right (by omega), ho, e1, e2]
      have := ih (i - c) (fun o' ho' => h o' (by simp [ho'])) (by rw [List.length_cons, Nat.add_mul] at hi; omega)
      rw [List.getD_eq_getElem?_getD] at this
      rw [this]
      simp
theorem filt_len {o : Int} : ∀ l : List Int, l.Nodup → o ∈ l → (l.filter (fun x => decide (x ≠ o))).length + 1 = l.length := by
  intro l
  induction l with
  | nil => intro _ h; simp at h
  | cons a l ih =>
    intro hn h
    rw [List.nodup_cons] at hn
    by_cases ha : a = o
    · subst ha
      have : l.filter (fun x => decide (x ≠ a)) = l := by
        rw [List.filter_eq_self]
        intro x hx
        simp
        intro e
        subst e
        exact hn.1 hx
      rw [List.filter_cons_of_neg (by simp), this]
      simp
    · have hm : o ∈ l := by
        rcases List.mem_cons.mp h with e | e
        · exact absurd e.symm ha
        · exact e
      rw [List.filter_cons_of_pos (by simp [ha]), List.length_cons, List.length_cons, ih hn.2 hm]
theorem rg_nodup : ∀ n : Nat, (rg n).Nodup := by
  intro n
  unfold rg
  refine List.Pairwise.map _ (fun a b hab => ?_) List.nodup_range
  intro e
  exact hab (by omega)
theorem frn_nodup {n : Nat} {pre : List Int} : (frn n pre).Nodup := List.Pairwise.filter _ (rg_nodup n)
theorem frn_app {n : Nat} {pre : List Int} {o : Int} : frn n (pre ++ [o]) = (frn n pre).filter (fun x => decide (x ≠ o)) := by
  unfold frn
  rw [List.filter_filter]
  congr 1
  funext x
  by_cases h1 : x ∈ pre <;> by_cases h2 : x = o <;> simp [h1, h2]
/-- the beginning of an order -/
def PreN (n : Nat) (pre : List Int) : Prop := pre.Nodup ∧ (∀ o, o ∈ pre → 0 ≤ o ∧ o < (n : Int)) ∧ (frn n pre).length + pre.length = n
theorem PreN_0 (n : Nat) : PreN n [] := by
  refine ⟨List.nodup_nil, fun o ho => by simp at ho, ?_⟩
  have : frn n [] = rg n := by
    unfold frn
    rw [List.filter_eq_self]
    intro x _
    simp
  rw [this]
  simp [rg]
theorem PreN_s {n : Nat} {pre : List Int} {o : Int} (h : PreN n pre) (ho : o ∈ frn n pre) : PreN n (pre ++ [o]) := by
  obtain ⟨h1, h2, h3⟩ := h
  have a := mem_frn ho
  refine ⟨?_, fun o' ho' => ?_, ?_⟩
  · rw [List.nodup_append]
    exact ⟨h1, by simp, fun x hx y hy => by
      have : y = o := by simpa using hy
      subst this
      intro e
      subst e
      exact a.2.2 hx⟩
  · rcases List.mem_append.mp ho' with h | h
    · exact h2 o' h
    · have : o' = o := by simpa using h
      subst this
      exact ⟨a.1, a.2.1⟩
  · have := filt_len _ (frn_nodup (n := n) (pre := pre)) ho
    rw [frn_app, List.length_append, List.length_singleton]
    omega
theorem cmpl_len {n : Nat} : ∀ (k : Nat) (pre : List Int), PreN n pre → pre.length + k = n → (cmpl n k pre).length = fac k := by
  intro k
  induction k with
  | zero => intro pre _ _; rfl
  | succ k ih =>
    intro pre hp hl
    have h3 := hp.2.2
    rw [cmpl, flat_len (c := fac k) _ (fun o ho => ih _ (PreN_s hp ho) (by simp; omega)), show (frn n pre).length = k + 1 by omega]
    rfl
theorem cmpl_get {n k i : Nat} {pre : List Int} (hp : PreN n pre) (hl : pre.length + (k + 1) = n) (hi : i < fac (k + 1)) : (cmpl n (k + 1) pre).getD i [] = (cmpl n k (pre ++ [(frn n pre).getD (i / fac k) 0])).getD (i % fac k) [] := by
  have h3 := hp.2.2
  rw [cmpl, flat_get (c := fac k) (fac_pos k) _ _ (fun o ho => cmpl_len k _ (PreN_s hp ho) (by simp; omega)) (by rw [show (frn n pre).length = k + 1 by omega]; exact hi)]
theorem div_fac {n k i : Nat} {pre : List Int} (hp : PreN n pre) (hl : pre.length + (k + 1) = n) (hi : i < fac (k + 1)) : (frn n pre).getD (i / fac k) 0 ∈ frn n pre := by
  have h3 := hp.2.2
  have hlt : i / fac k < (frn n pre).length := by
    rw [show (frn n pre).length = k + 1 by omega]
    exact (Nat.div_lt_iff_lt_mul (fac_pos k)).mpr hi
  simp [List.getD, hlt]
theorem cmpl_PreN {n : Nat} : ∀ (k : Nat) (pre : List Int), PreN n pre → pre.length + k = n → ∀ l, l ∈ cmpl n k pre → PreN n l ∧ l.length = n := by
  intro k
  induction k with
  | zero =>
    intro pre hp hl l h
    have : l = pre := by simpa [cmpl] using h
    subst this
    exact ⟨hp, hl⟩
  | succ k ih =>
    intro pre hp hl l h
    rw [cmpl, List.mem_flatMap] at h
    obtain ⟨o, ho, h⟩ := h
    exact ih _ (PreN_s hp ho) (by simp; omega) l h
