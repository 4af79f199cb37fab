/-! WHAT STANDS BEFORE THE LAW BEGINS, in the plain machine's words. -/
theorem va_T.cong {ty : FieldType} {t N : Nat} {f g : Nat → Value} {A : Nat → Prop} {U : State} {H : Heap} (h : va_T ty t N f A U H) (e : ∀ j : Nat, j < N → f j = g j) : va_T ty t N g A U H := by
  obtain ⟨cell, h1, h2, h3, h4, h5, h6, h7⟩ := h
  exact ⟨cell, h1, h2, h3, h4, h5, fun j hj => by rw [h6 j hj, e j hj], h7⟩
theorem va_T.of_X {b L : Nat} {xs : Nat → Int32} {A : Nat → Prop} {U : State} {H : Heap} (h : va_X b L xs U H) (hA : ¬ A b) : va_T .int b L (fun j => .int (xs j)) A U H := by
  obtain ⟨scr, h1, h2, h3, h4, h5⟩ := h
  exact ⟨scr, h1, h2, h3, Nat.le_of_eq h4.symm, by rw [h4], h5, hA⟩
def tpIx (i : Nat) : Nat := [63, 65, 67, 69, 44].getD i 0
def tpLn : List Nat := [8, 8, 7, 3, 0]
def tpBy : List (List Int32) := [[49, 49, 49, 46, 51, 46, 45, 51], [46, 45, 50, 46, 45, 49, 46, 51], [49, 49, 49, 49, 49, 46, 51], [49, 46, 51], []]
def tpTm (i : Nat) : Term := .string "LegHedge$SetUp" (tpIx i)
def tpF : List Cond := flatC (Jvm.Cond.and given_1 narrow_1)
set_option maxRecDepth 100000 in
theorem tp_ex : ∀ i, i < 5 → (Cond.exactly (tpTm i) "java/lang/String") ∈ tpF := by decide +kernel
set_option maxRecDepth 100000 in
theorem tp_co : ∀ i, i < 5 → (Cond.eq (.field (tpTm i) "java/lang/String" "coder" "B") (.int 0)) ∈ tpF := by decide +kernel
set_option maxRecDepth 100000 in
theorem tp_ar : ∀ i, i < 5 → (Cond.arrayOf (.field (tpTm i) "java/lang/String" "value" "[B") .byte) ∈ tpF := by decide +kernel
set_option maxRecDepth 100000 in
theorem tp_le : ∀ i, i < 5 → (Cond.eq (.length (.field (tpTm i) "java/lang/String" "value" "[B")) (.int (Int32.ofNat (tpLn.getD i 0)))) ∈ tpF := by decide +kernel
set_option maxRecDepth 100000 in
theorem tp_el : ∀ i, i < 5 → ∀ j, j < tpLn.getD i 0 → (Cond.eq (.elem (.field (tpTm i) "java/lang/String" "value" "[B") (.int (Int32.ofNat j))) (.int ((tpBy.getD i []).getD j 0))) ∈ tpF := by decide +kernel
set_option maxRecDepth 100000 in
theorem tp_ne : ∀ i, i < 5 → ∀ j, j < i → (Cond.not (Cond.eq (tpTm j) (tpTm i))) ∈ tpF := by decide +kernel
set_option maxRecDepth 100000 in
theorem tp_arr (nm : String) (l : List Int) (hn : (nm = "AT_FIRST" ∧ l = [100, 20, 1, 10, 2, 1]) ∨ (nm = "LEAST" ∧ l = [1, 0, 1, 0, 0, 0]) ∨ (nm = "MOST" ∧ l = [999, 99, 1000000, 99, 99, 99]) ∨ (nm = "UNDER" ∧ l = [-1, -1, -1, 1, 2]) ∨ (nm = "ORDERS" ∧ l = [1, 1, 2, 6, 24, 120, 720])) : (Cond.arrayOf (.static "LegHedge" nm "[I") .int) ∈ tpF ∧ (Cond.eq (.length (.static "LegHedge" nm "[I")) (.int (Int32.ofNat l.length))) ∈ tpF ∧ (∀ j : Nat, j < l.length → (Cond.eq (.elem (.static "LegHedge" nm "[I") (.int (Int32.ofNat j))) (.int (Int32.ofInt (lk l j)))) ∈ tpF) ∧ (Cond.laysStatic "LegHedge" nm "[I") ∈ tables_1 ∧ l.length < 2 ^ 31 := by
  rcases hn with ⟨rfl, rfl⟩ | ⟨rfl, rfl⟩ | ⟨rfl, rfl⟩ | ⟨rfl, rfl⟩ | ⟨rfl, rfl⟩
  · exact ⟨by decide +kernel, by decide +kernel, by decide +kernel, List.mem_of_getElem? (i := 70) (by decide +kernel), by decide⟩
  · exact ⟨by decide +kernel, by decide +kernel, by decide +kernel, List.mem_of_getElem? (i := 457) (by decide +kernel), by decide⟩
  · exact ⟨by decide +kernel, by decide +kernel, by decide +kernel, List.mem_of_getElem? (i := 459) (by decide +kernel), by decide⟩
  · exact ⟨by decide +kernel, by decide +kernel, by decide +kernel, List.mem_of_getElem? (i := 564) (by decide +kernel), by decide⟩
  · exact ⟨by decide +kernel, by decide +kernel, by decide +kernel, List.mem_of_getElem? (i := 603) (by decide +kernel), by decide⟩
theorem tp_by : ∀ i : Nat, i < 5 → ∀ j : Nat, j < tpLn.getD i 0 → (tpBy.getD i []).getD j 0 = Int32.ofInt (sm0 (fun _ => 0) (-13 - (i : Int)) j) := by decide +kernel
theorem tp_over {ty : FieldType} {args : Array Value} {s : State} (h : (Cond.arrayOver (.array ty)).before args s = true) : gAO ty s := by
  unfold gAO
  simp only [Cond.before, Cond.holds, Cond.value] at h ⊢
  exact h
section TOP
variable {s : State} {b L : Nat} {args : Array Value} {A : Nat → Prop}
theorem tb_w (hts : ∀ w ∈ lw_tbl, w.before args s = true) {w : Cond} {i : Nat} (h : tables_1[i]? = some w) : w.before args s = true := hts w (List.mem_append_right _ (List.mem_of_getElem? h))
theorem tp_st (hs : ∀ c ∈ tpF, c.before args s = true) (hts : ∀ w ∈ lw_tbl, w.before args s = true) (hA : ∀ a : Nat, a < s.heap.size → ¬ A a) (nm : String) (l : List Int) (hn : (nm = "AT_FIRST" ∧ l = [100, 20, 1, 10, 2, 1]) ∨ (nm = "LEAST" ∧ l = [1, 0, 1, 0, 0, 0]) ∨ (nm = "MOST" ∧ l = [999, 99, 1000000, 99, 99, 99]) ∨ (nm = "UNDER" ∧ l = [-1, -1, -1, 1, 2]) ∨ (nm = "ORDERS" ∧ l = [1, 1, 2, 6, 24, 120, 720])) : ∃ t : Nat, va_T .int t l.length (fun j => .int (Int32.ofInt (lk l j))) A s s.heap ∧ va_Z "LegHedge" nm "[I" (.ref t) A s s.heap := by
  obtain ⟨h1, h2, h3, h4, h5⟩ := tp_arr nm l hn
  obtain ⟨t, ht, hT⟩ := va_Tof (f := fun j => .int (Int32.ofInt (lk l j))) (A := A) h5 (hs _ h1) (va_eqt (hs _ h2)) (fun j hj => va_eqt (hs _ (h3 j hj))) hA
  exact ⟨t, hT, va_Zref (hts _ (List.mem_append_right _ h4)) (tb_w hts (i := 1) (by decide +kernel)) ht hA⟩
theorem tp_str (hs : ∀ c ∈ tpF, c.before args s = true) (hA : ∀ a : Nat, a < s.heap.size → ¬ A a) : ∃ adK adV : Nat → Nat, vk_S 5 tpLn tpBy adK adV A s s.heap ∧ ∀ i : Nat, i < 5 → (tpTm i).eval args s none [] s = some (.ref (adK i)) :=
  vk_Sof (by decide) (fun i hi => hs _ (tp_ex i hi)) (fun i hi => hs _ (tp_co i hi)) (fun i hi => hs _ (tp_ar i hi)) (fun i hi => hs _ (tp_le i hi)) (fun i hi j hj => hs _ (tp_el i hi j hj)) (fun i j hi hj hij => by
    rcases Nat.lt_or_gt_of_ne hij with h | h
    · exact Or.inl (hs _ (tp_ne j hj i h))
    · exact Or.inr (hs _ (tp_ne i hi j h))) hA
theorem tp_K (hts : ∀ w ∈ lw_tbl, w.before args s = true) : ∃ (cA dC : Nat → ClassId) (dI : Nat → Nat → Nat), va_K (dC, dI) vwCl (gTys cA) s := by
  have kn : ∀ (ci n : Nat) (q : vw_C), vwCl[ci]? = some q → ∃ (x : ClassId × (Nat → Nat)), u_Kn s q.1 q.2.1 q.2.2 x.1 x.2 := fun ci n q hq => by
    obtain ⟨C, T, N⟩ := q
    have hin : ∀ w ∈ u_ws C T N, w ∈ lw_tbl := fun w hw => (List.mem_filter.mp ((cl_ok hq).2.2.2.2.1 w hw)).1
    have hi : ∃ n, (Cond.instantiable C n).before args s = true := by
      match ci, hq with
      | 0, hq => cases hq; exact ⟨6, tb_w hts (i := 32) (by decide +kernel)⟩
      | 1, hq => cases hq; exact ⟨16, tb_w hts (i := 102) (by decide +kernel)⟩
      | 2, hq => cases hq; exact ⟨1, tb_w hts (i := 168) (by decide +kernel)⟩
      | 3, hq => cases hq; exact ⟨16, tb_w hts (i := 26) (by decide +kernel)⟩
      | 4, hq => cases hq; exact ⟨6, tb_w hts (i := 242) (by decide +kernel)⟩
      | 5, hq => cases hq; exact ⟨4, tb_w hts (i := 38) (by decide +kernel)⟩
      | 6, hq => cases hq; exact ⟨3, tb_w hts (i := 272) (by decide +kernel)⟩
      | 7, hq => cases hq; exact ⟨7, tb_w hts (i := 18) (by decide +kernel)⟩
      | 8, hq => cases hq; exact ⟨42, tb_w hts (i := 825) (by decide +kernel)⟩
      | ci + 9, hq => simp [vwCl] at hq
    obtain ⟨n, hi⟩ := hi
    obtain ⟨c0, iS0, h⟩ := u_known (C := C) (T := T) (N := N) (n := n) hts hin hi
    exact ⟨(c0, iS0), h⟩
  have kf : ∀ ci : Nat, ∃ x : ClassId × (Nat → Nat), ∀ q : vw_C, vwCl[ci]? = some q → u_Kn s q.1 q.2.1 q.2.2 x.1 x.2 := fun ci => by
    cases h : vwCl[ci]? with
    | none => exact ⟨(0, fun _ => 0), fun q hq => by cases hq⟩
    | some q =>
      obtain ⟨x, hx⟩ := kn ci 0 q h
      exact ⟨x, fun q' hq => by cases hq; exact hx⟩
  obtain ⟨f, hf⟩ := Classical.axiomOfChoice kf
  have ar : ∀ ty : FieldType, (Cond.arrayClass ty).before args s = true → ∃ c, ArrOfT s c ty ∧ s.vm.findClass ("[" ++ ty.toString) = some c := fun ty h => by
    obtain ⟨c, k, comp, h1, h2, h3⟩ := Cond.arrayClass_spec h
    exact ⟨c, fun n z => ⟨fun k h => (by cases h), k, h2, comp, h3⟩, h1⟩
  have aa : ∀ ty : FieldType, (Cond.arrayOver (.array ty)).before args s = true → ∃ c, ArrOfT s c (.array ty) ∧ s.vm.findClass ("[" ++ (FieldType.array ty).toString) = some c := fun ty h => by
    obtain ⟨comp, c, k, h1, h2, h3, h4⟩ := Cond.arrayOver_specA h
    exact ⟨c, fun n z => ⟨fun k h => (by cases h), k, h2, comp, h3⟩, h4⟩
  obtain ⟨c0, a0, n0⟩ := ar .int (tb_w hts (i := 60) (by decide +kernel))
  obtain ⟨c1, a1, n1⟩ := ar .long (tb_w hts (i := 161) (by decide +kernel))
  obtain ⟨c2, a2, n2⟩ := ar .boolean (tb_w hts (i := 162) (by decide +kernel))
  obtain ⟨c3, a3, n3⟩ := aa .int (tb_w hts (i := 164) (by decide +kernel))
  obtain ⟨c4, a4, n4⟩ := aa .long (tb_w hts (i := 166) (by decide +kernel))
  refine ⟨fun k => if k = 100 then c0 else if k = 101 then c1 else if k = 102 then c2 else if k = 103 then c3 else c4, fun k => (f k).1, fun k => (f k).2, fun ci q hq => hf ci q hq, fun k q hq => ?_⟩
  match k, hq with
  | 0, hq => cases hq; exact ⟨a0, n0⟩
  | 1, hq => cases hq; exact ⟨a1, n1⟩
  | 2, hq => cases hq; exact ⟨a2, n2⟩
  | 3, hq => cases hq; exact ⟨a3, n3⟩
  | 4, hq => cases hq; exact ⟨a4, n4⟩
  | k + 5, hq => simp [gTys] at hq
/-- the addresses of what stood before -/
def tpSa (b t1 t2 t3 t4 t5 : Nat) (k v : Nat → Nat) (t18 : Nat) (n : Nat) : Nat := match n with
  | 0 => b
  | 1 => t1
  | 2 => t2
  | 3 => t3
  | 4 => t4
  | 5 => t5
  | 6 => k 0
  | 7 => k 1
  | 8 => k 2
  | 9 => k 3
  | 10 => k 4
  | 11 => v 0
  | 12 => v 1
  | 13 => v 2
  | 14 => v 3
  | 15 => v 4
  | _ => t18
theorem tp_ss (L : Nat) {a : Int} (h : a < -1) : (∃ k : Nat, k < 6 ∧ a = -2 - (k : Int)) ∨ (∃ k : Nat, k < 5 ∧ a = -8 - (k : Int)) ∨ (∃ k : Nat, k < 5 ∧ a = -13 - (k : Int)) ∨ ssL L a = (99, 0) := by
  by_cases h1 : -7 ≤ a
  · exact Or.inl ⟨(-2 - a).toNat, by omega, by omega⟩
  · by_cases h2 : -12 ≤ a
    · exact Or.inr (Or.inl ⟨(-8 - a).toNat, by omega, by omega⟩)
    · by_cases h3 : -17 ≤ a
      · exact Or.inr (Or.inr (Or.inl ⟨(-13 - a).toNat, by omega, by omega⟩))
      · refine Or.inr (Or.inr (Or.inr ?_))
        unfold ssL
        rw [if_neg (by omega), if_neg (by omega), if_neg (by omega), if_neg (by omega), if_neg (by omega), if_neg (by omega), if_neg (by omega), if_neg (by omega), if_neg (by omega), if_neg (by omega), if_neg (by omega), if_neg (by omega), if_neg (by omega), if_neg (by omega), if_neg (by omega), if_neg (by omega)]
theorem tp_F {B : Nat} {xs : Int → Int} (hs : ∀ c ∈ tpF, c.before args s = true) (hts : ∀ w ∈ lw_tbl, w.before args s = true) (hB : B = s.heap.size) (hX : va_T .int b L (fun j => .int (Int32.ofInt (xs j))) (gAA B) s s.heap) : ∃ (sa : Nat → Nat) (z : Int), sa 0 = b ∧ gFa (ssL L) (sm0 xs) (spZ z) B sa s s.heap := by
  have hA : ∀ a : Nat, a < s.heap.size → ¬ gAA B a := fun a ha h => by
    have h : B ≤ a := h
    omega
  obtain ⟨t1, T1, Z1⟩ := tp_st hs hts hA "AT_FIRST" _ (Or.inl ⟨rfl, rfl⟩)
  obtain ⟨t2, T2, Z2⟩ := tp_st hs hts hA "LEAST" _ (Or.inr (Or.inl ⟨rfl, rfl⟩))
  obtain ⟨t3, T3, Z3⟩ := tp_st hs hts hA "MOST" _ (Or.inr (Or.inr (Or.inl ⟨rfl, rfl⟩)))
  obtain ⟨t4, T4, Z4⟩ := tp_st hs hts hA "UNDER" _ (Or.inr (Or.inr (Or.inr (Or.inl ⟨rfl, rfl⟩))))
  obtain ⟨t5, T5, Z5⟩ := tp_st hs hts hA "ORDERS" _ (Or.inr (Or.inr (Or.inr (Or.inr ⟨rfl, rfl⟩))))
  obtain ⟨k, v, ⟨hS, -⟩, hE⟩ := tp_str hs hA
  have zc : va_Z "java/lang/String" "COMPACT_STRINGS" "Z" (.int 1) (gAA B) s s.heap := va_Zof (tb_w hts (i := 708) (by decide +kernel)) (tb_w hts (i := 13) (by decide +kernel)) (va_eqi (hs _ (by decide +kernel))) hA
  have zp : ∃ (z : Int) (t18 : Nat), ∀ t1 t2 t3 t4 t5 k v, va_Z "jdk/internal/util/Preconditions" "SIOOBE_FORMATTER" "Ljava/util/function/BiFunction;" (gC B (tpSa b t1 t2 t3 t4 t5 k v t18) (2, z)) (gAA B) s s.heap := by
    rcases va_Zqof (A := gAA B) (tb_w hts (i := 724) (by decide +kernel)) (tb_w hts (i := 15) (by decide +kernel)) (hs (.isRef (.static "jdk/internal/util/Preconditions" "SIOOBE_FORMATTER" "Ljava/util/function/BiFunction;")) (by decide +kernel)) hA with h | ⟨t, h⟩
    · exact ⟨-1, 0, fun _ _ _ _ _ _ _ => by rw [gC_n]; exact h⟩
    · exact ⟨-18, t, fun _ _ _ _ _ _ _ => by rw [gC_s (by omega)]; exact h⟩
  obtain ⟨z, t18, zp⟩ := zp
  refine ⟨tpSa b t1 t2 t3 t4 t5 k v t18, z, rfl, fun a ha hk => ?_, fun a ha hk => ?_, fun a ha hk => ?_, fun q hq => ?_, fun i z' hz => ?_, fun w hw => ?_, ?_, ?_⟩
  · rcases tp_ss L ha with ⟨j, hj, rfl⟩ | ⟨j, hj, rfl⟩ | ⟨j, hj, rfl⟩ | h
    · have : j = 0 ∨ j = 1 ∨ j = 2 ∨ j = 3 ∨ j = 4 ∨ j = 5 := by omega
      rcases this with rfl | rfl | rfl | rfl | rfl | rfl
      · exact hX
      · exact T1
      · exact T2
      · exact T3
      · exact T4
      · exact T5
    · have : j = 0 ∨ j = 1 ∨ j = 2 ∨ j = 3 ∨ j = 4 := by omega
      rcases this with rfl | rfl | rfl | rfl | rfl <;> exact absurd (show (120 : Nat) = 100 from hk) (by decide)
    · have : j = 0 ∨ j = 1 ∨ j = 2 ∨ j = 3 ∨ j = 4 := by omega
      rcases this with rfl | rfl | rfl | rfl | rfl <;> exact absurd (show (110 : Nat) = 100 from hk) (by decide)
    · rw [h] at hk; exact absurd hk (by decide)
  · rcases tp_ss L ha with ⟨j, hj, rfl⟩ | ⟨j, hj, rfl⟩ | ⟨j, hj, rfl⟩ | h
    · have : j = 0 ∨ j = 1 ∨ j = 2 ∨ j = 3 ∨ j = 4 ∨ j = 5 := by omega
      rcases this with rfl | rfl | rfl | rfl | rfl | rfl <;> exact absurd (show (100 : Nat) = 110 from hk) (by decide)
    · have : j = 0 ∨ j = 1 ∨ j = 2 ∨ j = 3 ∨ j = 4 := by omega
      rcases this with rfl | rfl | rfl | rfl | rfl <;> exact absurd (show (120 : Nat) = 110 from hk) (by decide)
    · have : j = 0 ∨ j = 1 ∨ j = 2 ∨ j = 3 ∨ j = 4 := by omega
      rcases this with rfl | rfl | rfl | rfl | rfl
      · exact va_T.cong (hS 0 (by omega)).2.2.2 (fun j hj => congrArg Value.int (tp_by 0 (by omega) j hj))
      · exact va_T.cong (hS 1 (by omega)).2.2.2 (fun j hj => congrArg Value.int (tp_by 1 (by omega) j hj))
      · exact va_T.cong (hS 2 (by omega)).2.2.2 (fun j hj => congrArg Value.int (tp_by 2 (by omega) j hj))
      · exact va_T.cong (hS 3 (by omega)).2.2.2 (fun j hj => congrArg Value.int (tp_by 3 (by omega) j hj))
      · exact va_T.cong (hS 4 (by omega)).2.2.2 (fun j hj => congrArg Value.int (tp_by 4 (by omega) j hj))
    · rw [h] at hk; exact absurd hk (by decide)
  · rcases tp_ss L ha with ⟨j, hj, rfl⟩ | ⟨j, hj, rfl⟩ | ⟨j, hj, rfl⟩ | h
    · have : j = 0 ∨ j = 1 ∨ j = 2 ∨ j = 3 ∨ j = 4 ∨ j = 5 := by omega
      rcases this with rfl | rfl | rfl | rfl | rfl | rfl <;> exact absurd (show (100 : Nat) = 120 from hk) (by decide)
    · have : j = 0 ∨ j = 1 ∨ j = 2 ∨ j = 3 ∨ j = 4 := by omega
      rcases this with rfl | rfl | rfl | rfl | rfl
      · obtain ⟨u1, u2, u3, -⟩ := hS 0 (by omega); exact ⟨u1, u3, u2⟩
      · obtain ⟨u1, u2, u3, -⟩ := hS 1 (by omega); exact ⟨u1, u3, u2⟩
      · obtain ⟨u1, u2, u3, -⟩ := hS 2 (by omega); exact ⟨u1, u3, u2⟩
      · obtain ⟨u1, u2, u3, -⟩ := hS 3 (by omega); exact ⟨u1, u3, u2⟩
      · obtain ⟨u1, u2, u3, -⟩ := hS 4 (by omega); exact ⟨u1, u3, u2⟩
    · have : j = 0 ∨ j = 1 ∨ j = 2 ∨ j = 3 ∨ j = 4 := by omega
      rcases this with rfl | rfl | rfl | rfl | rfl <;> exact absurd (show (110 : Nat) = 120 from hk) (by decide)
    · rw [h] at hk; exact absurd hk (by decide)
  · simp only [gSt, List.mem_cons, List.not_mem_nil, or_false] at hq
    rcases hq with rfl | rfl | rfl | rfl | rfl | rfl | rfl
    · exact Z1
    · exact Z2
    · exact Z3
    · exact Z5
    · exact Z4
    · exact zc
    · exact zp t1 t2 t3 t4 t5 k v
  · have hz : lkp tC_4 i = some (2, z') := hz
    have hm := lkp_mem hz
    simp only [tC_4, List.mem_cons, List.not_mem_nil, or_false] at hm
    rcases hm with h | h | h | h | h <;> cases h
    · exact vk_R.of (A := args) (tb_w hts (i := 694) (by decide +kernel)) (hE 4 (by omega))
    · exact vk_R.of (A := args) (tb_w hts (i := 690) (by decide +kernel)) (hE 0 (by omega))
    · exact vk_R.of (A := args) (tb_w hts (i := 691) (by decide +kernel)) (hE 1 (by omega))
    · exact vk_R.of (A := args) (tb_w hts (i := 692) (by decide +kernel)) (hE 2 (by omega))
    · exact vk_R.of (A := args) (tb_w hts (i := 693) (by decide +kernel)) (hE 3 (by omega))
  · have h := hts w (List.mem_append_right _ (gNW_t w hw))
    simp only [gNW, List.mem_cons, List.not_mem_nil, or_false] at hw
    rcases hw with rfl | rfl | rfl | rfl | rfl | rfl <;> exact va_Nw.of rfl h
  · exact tp_over (tb_w hts (i := 164) (by decide +kernel))
  · exact tp_over (tb_w hts (i := 166) (by decide +kernel))
theorem tp_Ss {xs : Int → Int} (hL : L ≤ 3584) (hx : ∀ j, okI (xs j)) : gSs (ssL L) (sm0 xs) := fun a ha => by
  have lt : ∀ (l : List Int) (j : Int), (∀ v ∈ l, okI v) → okI (lk l j) := fun l j h => by
    show okI (l.getD j.toNat 0)
    rw [List.getD_eq_getElem?_getD]
    cases hj : l[j.toNat]? with
    | none => exact ⟨by decide, by decide⟩
    | some v => exact h v (List.mem_of_getElem? hj)
  refine ⟨?_, ?_, fun j => ?_⟩
  · rcases tp_ss L ha with ⟨j, hj, rfl⟩ | ⟨j, hj, rfl⟩ | ⟨j, hj, rfl⟩ | h
    · have : j = 0 ∨ j = 1 ∨ j = 2 ∨ j = 3 ∨ j = 4 ∨ j = 5 := by omega
      rcases this with rfl | rfl | rfl | rfl | rfl | rfl <;> exact Or.inr (Or.inl rfl)
    · have : j = 0 ∨ j = 1 ∨ j = 2 ∨ j = 3 ∨ j = 4 := by omega
      rcases this with rfl | rfl | rfl | rfl | rfl <;> exact Or.inr (Or.inr (Or.inr rfl))
    · have : j = 0 ∨ j = 1 ∨ j = 2 ∨ j = 3 ∨ j = 4 := by omega
      rcases this with rfl | rfl | rfl | rfl | rfl <;> exact Or.inr (Or.inr (Or.inl rfl))
    · exact Or.inl (by rw [h])
  · rcases tp_ss L ha with ⟨j, hj, rfl⟩ | ⟨j, hj, rfl⟩ | ⟨j, hj, rfl⟩ | h
    · have : j = 0 ∨ j = 1 ∨ j = 2 ∨ j = 3 ∨ j = 4 ∨ j = 5 := by omega
      rcases this with rfl | rfl | rfl | rfl | rfl | rfl
      · show L ≤ 100000; omega
      · show 6 ≤ 100000; omega
      · show 6 ≤ 100000; omega
      · show 6 ≤ 100000; omega
      · show 5 ≤ 100000; omega
      · show 7 ≤ 100000; omega
    · have : j = 0 ∨ j = 1 ∨ j = 2 ∨ j = 3 ∨ j = 4 := by omega
      rcases this with rfl | rfl | rfl | rfl | rfl <;> (show 0 ≤ 100000; omega)
    · have : j = 0 ∨ j = 1 ∨ j = 2 ∨ j = 3 ∨ j = 4 := by omega
      rcases this with rfl | rfl | rfl | rfl | rfl
      · show 8 ≤ 100000; omega
      · show 8 ≤ 100000; omega
      · show 7 ≤ 100000; omega
      · show 3 ≤ 100000; omega
      · show 0 ≤ 100000; omega
    · rw [h]; show 0 ≤ 100000; omega
  · unfold sm0
    repeat' split
    · exact hx j
    all_goals first
      | exact ⟨by decide, by decide⟩
      | (refine lt _ _ ?_; intro v hv; simp only [List.mem_cons, List.not_mem_nil, or_false] at hv; unfold okI; omega)
end TOP
