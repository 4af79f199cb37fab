/-! WHAT THE PLAIN MACHINE'S WORLD IS in the heap: cell k stands at B + k; what stands before has its address by sa. -/
def gC (B : Nat) (sa : Nat → Nat) (v : gV) : Value := match v.1 with
  | 0 => .int (Int32.ofInt v.2)
  | 1 => .long (Int64.ofInt v.2)
  | _ => if 0 ≤ v.2 then .ref (B + v.2.toNat) else if v.2 = -1 then .null else .ref (sa (-2 - v.2).toNat)
def okV (v : gV) : Prop := match v.1 with
  | 0 => okI v.2
  | 1 => okL v.2
  | _ => True
def gRw (w : gW) (m : gM) (k : Nat) : Int → Int := if (wS w k).1 = 103 ∨ (wS w k).1 = 104 then wP w k else m k
def gArr (B kd : Nat) (row : Int → Int) : (Nat → Int32) ⊕ (Nat → Int64) ⊕ (Nat → UInt32) ⊕ (Nat → UInt64) ⊕ (Nat → Option Nat) :=
  if kd = 101 then .inr (.inl (fun j => Int64.ofInt (row j))) else if kd = 103 ∨ kd = 104 then .inr (.inr (.inr (.inr (fun j => if 0 ≤ row j then some (B + (row j).toNat) else none)))) else .inl (fun j => Int32.ofInt (row j))
/-- what stands in a field -/
def gFv (w : gW) (m : gM) (k : Nat) (j : Nat) : gV := (gTg (gFt (wS w k).1 j), if gTg (gFt (wS w k).1 j) = 2 then wP w k j else m k j)
def gE (cA : Nat → ClassId) (B : Nat) (sa : Nat → Nat) (w : gW) (m : gM) (k : Nat) : va_E := if (wS w k).1 < 9 then .inr ((wS w k).1, (List.range (gNf (wS w k).1)).map (fun j => gC B sa (gFv w m k j))) else .inl (cA (wS w k).1, (wS w k).2, gArr B (wS w k).1 (gRw w m k))
def gWd (cA : Nat → ClassId) (B : Nat) (sa : Nat → Nat) (w : gW) (m : gM) : va_W := (List.range w.1).map (fun k => (B + k, gE cA B sa w m k))
def gTys (cA : Nat → ClassId) : List (ClassId × FieldType) := [(cA 100, .int), (cA 101, .long), (cA 102, .boolean), (cA 103, .array .int), (cA 104, .array .long)]
/-- what the plain machine's places hold is of their types; what stood before stays -/
def gOk (ss : Int → Nat × Nat) (sm sp : Int → Int → Int) (w : gW) (m : gM) : Prop :=
  (∀ k : Nat, k < w.1 → ((wS w k).1 < 9 ∨ (100 ≤ (wS w k).1 ∧ (wS w k).1 ≤ 104 ∧ (wS w k).2 ≤ 100000)) ∧ (∀ j : Nat, okT (if (wS w k).1 < 9 then gFt (wS w k).1 j else gEt (wS w k).1) (m k j)) ∧ ∀ j : Nat, -1 ≤ wP w k j) ∧
  (∀ a : Int, (w.1 : Int) ≤ a ∨ a = -1 → (wS w a).1 = 99) ∧ (∀ a : Int, a < -1 → wS w a = ss a ∧ (∀ i, m a i = sm a i) ∧ ∀ i, wP w a i = sp a i) ∧ wP w (-1) 0 = sp (-1) 0
def gAA (B : Nat) : Nat → Prop := fun q => B ≤ q
def gH (B : Nat) (sa : Nat → Nat) (arr : Array Slot) (nL : Nat) (ls : List gV) : Prop := ∃ l : List (Nat × Value), lv_has arr nL l ∧ ∀ (i : Nat) (v : gV), ls[i]? = some v → v.1 < 3 → (i, gC B sa v) ∈ l
section GW
variable {B : Nat} {sa : Nat → Nat}
theorem gC_i (z : Int) : gC B sa (0, z) = .int (Int32.ofInt z) := rfl
theorem gC_l (z : Int) : gC B sa (1, z) = .long (Int64.ofInt z) := rfl
theorem gC_r {z : Int} (h : 0 ≤ z) : gC B sa (2, z) = .ref (B + z.toNat) := by simp [gC, h]
theorem gC_s {z : Int} (h : z < -1) : gC B sa (2, z) = .ref (sa (-2 - z).toNat) := by
  have h1 : ¬ 0 ≤ z := by omega
  have h2 : ¬ z = -1 := by omega
  simp [gC, h1, h2]
theorem gC_n : gC B sa (2, -1) = .null := rfl
theorem gC_rf (z : Int) : gC B sa (2, z) = .null ∨ ∃ a, gC B sa (2, z) = .ref a := by
  by_cases h : 0 ≤ z
  · exact Or.inr ⟨_, gC_r h⟩
  · by_cases h2 : z = -1
    · subst h2; exact Or.inl rfl
    · exact Or.inr ⟨_, gC_s (by omega)⟩
theorem gC_cat (v : gV) : (gC B sa v).category = gCat v := by
  obtain ⟨t, z⟩ := v
  match t with
  | 0 => rfl
  | 1 => rfl
  | t + 2 =>
    have e : gC B sa (t + 2, z) = gC B sa (2, z) := rfl
    rw [e]
    rcases gC_rf (B := B) (sa := sa) z with h | ⟨a, h⟩ <;> rw [h] <;> simp [Value.category, gCat]
theorem gC_sum (st : List gV) : ((st.map (gC B sa)).map fun v => v.category).sum = (st.map gCat).sum := by
  rw [List.map_map]
  congr 1
  exact List.map_congr_left fun v _ => gC_cat v
theorem gstA_get (i : Nat) (v : gV) : ∀ (ls : List gV) (k j : Nat), (gstA i v k ls)[j]? = (ls[j]?).map (fun w => if k + j = i then v else if k + j + 1 = i ∧ w.1 = 1 then (3, 0) else w) := by
  intro ls
  induction ls with
  | nil => intro k j; simp [gstA]
  | cons w r ih =>
    intro k j
    cases j with
    | zero => simp [gstA]
    | succ j =>
      rw [gstA, List.getElem?_cons_succ, List.getElem?_cons_succ, ih]
      have e : k + 1 + j = k + (j + 1) := by omega
      rw [e]
theorem gstB_get (i : Nat) (v : gV) : ∀ (ls : List gV) (k j : Nat), (gstB i v k ls)[j]? = (ls[j]?).map (fun w => if k + j = i then v else if k + j = i + 1 then (3, 0) else if k + j + 1 = i ∧ w.1 = 1 then (3, 0) else w) := by
  intro ls
  induction ls with
  | nil => intro k j; simp [gstB]
  | cons w r ih =>
    intro k j
    cases j with
    | zero => simp [gstB]
    | succ j =>
      rw [gstB, List.getElem?_cons_succ, List.getElem?_cons_succ, ih]
      have e : k + 1 + j = k + (j + 1) := by omega
      rw [e]
theorem gstA_ok {i : Nat} {v : gV} {ls : List gV} (hv : okV v) (h : ∀ w ∈ ls, okV w) : ∀ w ∈ gstA i v 0 ls, okV w := by
  intro w hw
  obtain ⟨j, hj⟩ := List.getElem?_of_mem hw
  rw [gstA_get, Option.map_eq_some_iff] at hj
  obtain ⟨x, hx, rfl⟩ := hj
  split
  · exact hv
  · split
    · exact trivial
    · exact h x (List.mem_of_getElem? hx)
theorem gstB_ok {i : Nat} {v : gV} {ls : List gV} (hv : okV v) (h : ∀ w ∈ ls, okV w) : ∀ w ∈ gstB i v 0 ls, okV w := by
  intro w hw
  obtain ⟨j, hj⟩ := List.getElem?_of_mem hw
  rw [gstB_get, Option.map_eq_some_iff] at hj
  obtain ⟨x, hx, rfl⟩ := hj
  split
  · exact hv
  · split
    · exact trivial
    · split
      · exact trivial
      · exact h x (List.mem_of_getElem? hx)
theorem gH_get {arr : Array Slot} {nL : Nat} {ls : List gV} (h : gH B sa arr nL ls) {i : Nat} {v : gV} (hi : ls[i]? = some v) (hv : v.1 < 3) : arr[i]? = some (.val (gC B sa v)) := by
  obtain ⟨l, h1, h2⟩ := h
  exact h1.2.2 _ (h2 i v hi hv)
theorem gH_size {arr : Array Slot} {nL : Nat} {ls : List gV} (h : gH B sa arr nL ls) : arr.size = nL := h.choose_spec.1.1
theorem gH_A {arr : Array Slot} {nL : Nat} {ls : List gV} {l : List (Nat × Value)} (h2 : ∀ (i : Nat) (v : gV), ls[i]? = some v → v.1 < 3 → (i, gC B sa v) ∈ l) {i : Nat} {v : gV} (h : lv_has arr nL ((i, gC B sa v) :: l.filter (fun q => !(q.1 == i) && !(q.1 + 1 == i && q.2.category == 2)))) : gH B sa arr nL (gstA i v 0 ls) := by
  refine ⟨_, h, fun j w hj hw => ?_⟩
  rw [gstA_get, Option.map_eq_some_iff] at hj
  obtain ⟨x, hx, rfl⟩ := hj
  rw [Nat.zero_add] at hw ⊢
  by_cases e : j = i
  · rw [if_pos e, e]
    exact List.mem_cons_self
  · rw [if_neg e] at hw ⊢
    by_cases e2 : j + 1 = i ∧ x.1 = 1
    · rw [if_pos e2] at hw
      exact absurd hw (by decide)
    · rw [if_neg e2] at hw ⊢
      refine List.mem_cons_of_mem _ (List.mem_filter.mpr ⟨h2 j x hx hw, ?_⟩)
      have e3 : ¬ (j + 1 = i ∧ (gC B sa x).category = 2) := by
        rintro ⟨a, b⟩
        refine e2 ⟨a, ?_⟩
        rw [gC_cat, gCat] at b
        by_cases q : x.1 = 1
        · exact q
        · rw [if_neg q] at b; exact absurd b (by decide)
      simp only [Bool.and_eq_true, Bool.not_eq_true', beq_eq_false_iff_ne, ne_eq, Bool.and_eq_false_imp, beq_iff_eq]
      exact ⟨e, fun a b => e3 ⟨a, by simpa using b⟩⟩
theorem gH_B {arr : Array Slot} {nL : Nat} {ls : List gV} {l : List (Nat × Value)} (h2 : ∀ (i : Nat) (v : gV), ls[i]? = some v → v.1 < 3 → (i, gC B sa v) ∈ l) {i : Nat} {v : gV} (h : lv_has arr nL ((i, gC B sa v) :: l.filter (fun q => !(q.1 == i) && (!(q.1 == i + 1) && !(q.1 + 1 == i && q.2.category == 2))))) : gH B sa arr nL (gstB i v 0 ls) := by
  refine ⟨_, h, fun j w hj hw => ?_⟩
  rw [gstB_get, Option.map_eq_some_iff] at hj
  obtain ⟨x, hx, rfl⟩ := hj
  rw [Nat.zero_add] at hw ⊢
  by_cases e : j = i
  · rw [if_pos e, e]
    exact List.mem_cons_self
  · rw [if_neg e] at hw ⊢
    by_cases e1 : j = i + 1
    · rw [if_pos e1] at hw
      exact absurd hw (by decide)
    rw [if_neg e1] at hw ⊢
    by_cases e2 : j + 1 = i ∧ x.1 = 1
    · rw [if_pos e2] at hw
      exact absurd hw (by decide)
    · rw [if_neg e2] at hw ⊢
      refine List.mem_cons_of_mem _ (List.mem_filter.mpr ⟨h2 j x hx hw, ?_⟩)
      have e3 : ¬ (j + 1 = i ∧ (gC B sa x).category = 2) := by
        rintro ⟨a, b⟩
        refine e2 ⟨a, ?_⟩
        rw [gC_cat, gCat] at b
        by_cases q : x.1 = 1
        · exact q
        · rw [if_neg q] at b; exact absurd b (by decide)
      simp only [Bool.and_eq_true, Bool.not_eq_true', beq_eq_false_iff_ne, ne_eq, Bool.and_eq_false_imp, beq_iff_eq]
      exact ⟨e, e1, fun a b => e3 ⟨a, by simpa using b⟩⟩
theorem gSp_len (As : List gV) : (gSp As).length = (lg_sl (As.map (gC B sa))).length := by
  induction As with
  | nil => rfl
  | cons v r ih =>
    rw [gSp, List.map_cons]
    have e : lg_sl (gC B sa v :: r.map (gC B sa)) = (if (gC B sa v).category = 2 then [.val (gC B sa v), .second] else [.val (gC B sa v)]) ++ lg_sl (r.map (gC B sa)) := by simp [lg_sl]
    rw [e, gC_cat, gCat]
    by_cases h : v.1 = 1
    · simp [h, ih] <;> omega
    · simp [h, ih] <;> omega
theorem gSp_args : ∀ (As : List gV) (k i : Nat) (v : gV), (gSp As)[i]? = some v → v.1 < 3 → (k + i, gC B sa v) ∈ lv_args k (As.map (gC B sa)) := by
  intro As
  induction As with
  | nil => intro k i v h; simp [gSp] at h
  | cons a r ih =>
    intro k i v h hv
    rw [List.map_cons, lv_args, gC_cat, gCat]
    rw [gSp] at h
    by_cases ha : a.1 = 1
    · rw [if_pos ha] at h ⊢
      simp only [if_true] 
      match i, h with
      | 0, h =>
        simp only [List.getElem?_cons_zero, Option.some.injEq] at h
        subst h
        exact List.mem_cons_self
      | 1, h =>
        simp only [List.getElem?_cons_succ, List.getElem?_cons_zero, Option.some.injEq] at h
        subst h
        exact absurd hv (by decide)
      | i + 2, h =>
        simp only [List.getElem?_cons_succ] at h
        have := ih (k + 2) i v h hv
        refine List.mem_cons_of_mem _ ?_
        rw [show k + (i + 2) = k + 2 + i by omega]
        exact this
    · rw [if_neg ha] at h ⊢
      simp only [show ¬ (1 = 2) by decide, if_false]
      match i, h with
      | 0, h =>
        simp only [List.getElem?_cons_zero, Option.some.injEq] at h
        subst h
        exact List.mem_cons_self
      | i + 1, h =>
        simp only [List.getElem?_cons_succ] at h
        have := ih (k + 1) i v h hv
        refine List.mem_cons_of_mem _ ?_
        rw [show k + (i + 1) = k + 1 + i by omega]
        exact this
theorem gH_ent {As : List gV} {nL : Nat} (h : (gSp As).length ≤ nL) : gH B sa ((lg_sl (As.map (gC B sa)) ++ List.replicate (nL - (lg_sl (As.map (gC B sa))).length) Slot.unset).toArray) nL (gEnt As nL) := by
  have h2 : (lg_sl (As.map (gC B sa))).length ≤ nL := by rw [← gSp_len]; exact h
  refine ⟨_, lv_entry _ h2, fun i v hi hv => ?_⟩
  rw [gEnt] at hi
  by_cases hl : i < (gSp As).length
  · rw [List.getElem?_append_left hl] at hi
    have := gSp_args (B := B) (sa := sa) As 0 i v hi hv
    rwa [Nat.zero_add] at this
  · rw [List.getElem?_append_right (by omega), List.getElem?_replicate] at hi
    split at hi
    · simp only [Option.some.injEq] at hi
      subst hi
      exact absurd hv (by decide)
    · cases hi
theorem gSp_ok {As : List gV} (h : ∀ v ∈ As, okV v) : ∀ v ∈ gSp As, okV v := by
  induction As with
  | nil => intro v hv; simp [gSp] at hv
  | cons a r ih =>
    intro v hv
    rw [gSp] at hv
    have h1 := h a List.mem_cons_self
    have h2 := ih (fun v hv => h v (List.mem_cons_of_mem _ hv))
    split at hv
    · rcases List.mem_cons.mp hv with rfl | hv
      · exact h1
      · rcases List.mem_cons.mp hv with rfl | hv
        · exact trivial
        · exact h2 v hv
    · rcases List.mem_cons.mp hv with rfl | hv
      · exact h1
      · exact h2 v hv
theorem gEnt_ok {As : List gV} {nL : Nat} (h : ∀ v ∈ As, okV v) : ∀ v ∈ gEnt As nL, okV v := by
  intro v hv
  rcases List.mem_append.mp hv with hv | hv
  · exact gSp_ok h v hv
  · rw [List.eq_of_mem_replicate hv]; exact trivial
variable {cA : Nat → ClassId} {w : gW} {m : gM}
theorem gWd_get {k : Nat} (h : k < w.1) : (gWd cA B sa w m)[k]? = some (B + k, gE cA B sa w m k) := by simp [gWd, h]
theorem gWd_of {k : Nat} {q : Nat × va_E} (h : (gWd cA B sa w m)[k]? = some q) : k < w.1 ∧ q = (B + k, gE cA B sa w m k) := by
  have hk : k < w.1 := by
    have := (List.getElem?_eq_some_iff.mp h).1
    simpa [gWd] using this
  rw [gWd_get hk] at h
  exact ⟨hk, (Option.some.inj h).symm⟩
theorem gWd_D : va_D (gAA B) (gWd cA B sa w m) := by
  refine ⟨fun i j p q hi hj e => ?_, fun k q hk => ?_⟩
  · obtain ⟨h1, rfl⟩ := gWd_of hi
    obtain ⟨h2, rfl⟩ := gWd_of hj
    dsimp only at e
    omega
  · obtain ⟨h1, rfl⟩ := gWd_of hk
    exact Nat.le_add_right _ _
theorem gWd_set {k : Nat} {w' : gW} {m' : gM} (hk : k < w.1) (hn : w'.1 = w.1) (h : ∀ j : Nat, j < w.1 → j ≠ k → gE cA B sa w' m' j = gE cA B sa w m j) : (gWd cA B sa w m).set k (B + k, gE cA B sa w' m' k) = gWd cA B sa w' m' := by
  apply List.ext_getElem?
  intro i
  rw [List.getElem?_set]
  by_cases e : k = i
  · subst e
    have hl : k < (gWd cA B sa w m).length := by simpa [gWd] using hk
    rw [if_pos rfl, if_pos hl, gWd_get (by rw [hn]; exact hk)]
  · rw [if_neg e]
    by_cases hi : i < w.1
    · rw [gWd_get hi, gWd_get (by rw [hn]; exact hi), h i hi (fun q => e q.symm)]
    · have l1 : (gWd cA B sa w m)[i]? = none := by simp [gWd]; omega
      have l2 : (gWd cA B sa w' m')[i]? = none := by simp [gWd]; omega
      rw [l1, l2]
theorem gWd_same {w' : gW} {m' : gM} (hn : w'.1 = w.1) (h : ∀ j : Nat, j < w.1 → gE cA B sa w' m' j = gE cA B sa w m j) : gWd cA B sa w' m' = gWd cA B sa w m := by
  unfold gWd
  rw [hn]
  apply List.map_congr_left
  intro j hj
  rw [h j (List.mem_range.mp hj)]
theorem gE_row {w' : gW} {m' : gM} {k : Nat} (h1 : wS w' k = wS w k) (h2 : ∀ j : Nat, m' k j = m k j) (h3 : ∀ j : Nat, wP w' k j = wP w k j) : gE cA B sa w' m' k = gE cA B sa w m k := by
  unfold gE
  rw [h1]
  split
  · congr 2
    apply List.map_congr_left
    intro j _
    simp only [gFv, h1, h2, h3]
  · congr 3
    unfold gArr
    split
    · congr 2
      funext j
      simp only [gRw, h1]
      split <;> simp [h2, h3]
    · split
      · congr 4
        funext j
        simp only [gRw, h1]
        split <;> simp [h2, h3]
      · congr 1
        funext j
        simp only [gRw, h1]
        split <;> simp [h2, h3]
theorem gE_obj {k : Nat} (h : (wS w k).1 < 9) : gE cA B sa w m k = .inr ((wS w k).1, (List.range (gNf (wS w k).1)).map (fun j => gC B sa (gFv w m k j))) := if_pos h
theorem gE_arr {k : Nat} (h : 100 ≤ (wS w k).1) : gE cA B sa w m k = .inl (cA (wS w k).1, (wS w k).2, gArr B (wS w k).1 (gRw w m k)) := if_neg (by omega)
theorem gTys_at {kd t0 : Nat} (hk : 100 ≤ kd) (hk2 : kd ≤ 104) (ht : t0 + 100 = kd) : (gTys cA)[t0]? = some (cA kd, gEt kd) := by
  have : kd = 100 ∨ kd = 101 ∨ kd = 102 ∨ kd = 103 ∨ kd = 104 := by omega
  rcases this with rfl | rfl | rfl | rfl | rfl <;> obtain rfl : t0 = _ := Nat.add_right_cancel ht <;> rfl
/-- an address whose kind is a cell's is a cell's, or stands before -/
theorem gOk_lt {ss : Int → Nat × Nat} {sm sp : Int → Int → Int} (h : gOk ss sm sp w m) {a : Int} (ha : (wS w a).1 ≠ 99) : (0 ≤ a ∧ a < w.1) ∨ a < -1 := by
  by_cases h1 : (w.1 : Int) ≤ a
  · exact absurd (h.2.1 a (Or.inl h1)) ha
  · by_cases h2 : a = -1
    · exact absurd (h.2.1 a (Or.inr h2)) ha
    · omega
theorem ix32 {i : Int} (h : okI i) : (Int32.ofInt i).toNatClampNeg = i.toNat := Int32.toNatClampNeg_ofInt_of_le h.1 (by have := h.2; omega)
theorem in32 {i : Int} {n : Nat} (h : okI i) (h0 : 0 ≤ i) (h1 : i < n) : vp_in (Int32.ofInt i) n := vp_in_iff.mpr (by rw [to32 h]; exact ⟨h0, h1⟩)
end GW
