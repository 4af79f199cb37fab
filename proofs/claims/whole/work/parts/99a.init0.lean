/-! WHAT THE CONSTRUCTORS MAKE: places as a list of deeds, the newest first. -/
abbrev WO : Type := (Int × Nat × Nat) ⊕ (Int × Nat × Nat × Nat) ⊕ (Int × Int × Int)
def wO : WO → gW → gW
  | .inl (_, kd, n), w => wNew w kd n
  | .inr (.inl (_, kd, n, k)), w => wGrid w kd n k
  | .inr (.inr (a, i, v)), w => wPut w a i v
def wR : List WO → gW → gW
  | [], w => w
  | o :: l, w => wO o (wR l w)
theorem wR_app : ∀ (l l' : List WO) (w : gW), wR (l ++ l') w = wR l (wR l' w)
  | [], _, _ => rfl
  | o :: l, l', w => by
    show wO o (wR (l ++ l') w) = wO o (wR l (wR l' w))
    rw [wR_app l l' w]
def oTb (b i : Int) (n : Nat) (t c : Int) : List WO := [.inr (.inr (b, i, t)), .inr (.inr (t, 2, c)), .inl (c, 100, n), .inl (t, 5, 4)]
def oBk (q : Int) : List WO := oTb q 5 16 (q + 11) (q + 12) ++ (oTb q 4 8 (q + 9) (q + 10) ++ (oTb q 3 120 (q + 7) (q + 8) ++ (oTb q 2 36 (q + 5) (q + 6) ++ (oTb q 1 24 (q + 3) (q + 4) ++ oTb q 0 30 (q + 1) (q + 2)))))
def tlCr (x : Int) : List WO := [.inr (.inr (x, 15, x + 14)), .inl (x + 14, 101, 5), .inr (.inr (x, 14, x + 13)), .inl (x + 13, 101, 5), .inr (.inr (x, 13, x + 12)), .inl (x + 12, 102, 6), .inr (.inr (x, 12, x + 11)), .inl (x + 11, 102, 6), .inr (.inr (x, 11, x + 10)), .inl (x + 10, 100, 6), .inr (.inr (x, 10, x + 9)), .inl (x + 9, 101, 6), .inr (.inr (x, 9, x + 8)), .inl (x + 8, 100, 6), .inr (.inr (x, 8, x + 7)), .inl (x + 7, 100, 6), .inr (.inr (x, 7, x + 6)), .inl (x + 6, 100, 6), .inr (.inr (x, 6, x + 5)), .inl (x + 5, 100, 6), .inr (.inr (x, 4, x + 4)), .inl (x + 4, 101, 6), .inr (.inr (x, 3, x + 3)), .inl (x + 3, 100, 6), .inr (.inr (x, 2, x + 2)), .inl (x + 2, 100, 6), .inr (.inr (x, 1, x + 1)), .inl (x + 1, 100, 6)]
def tlR2 (r : Int) : List WO := [.inr (.inr (r, 15, r + 86)), .inl (r + 86, 2, 1), .inr (.inr (r, 14, r + 85)), .inl (r + 85, 101, 6), .inr (.inr (r, 13, r + 79)), .inr (.inl (r + 79, 100, 5, 8)), .inr (.inr (r, 12, r + 73)), .inr (.inl (r + 73, 100, 5, 8)), .inr (.inr (r, 11, r + 72)), .inl (r + 72, 101, 6), .inr (.inr (r, 10, r + 71)), .inl (r + 71, 101, 5), .inr (.inr (r, 9, r + 70)), .inl (r + 70, 101, 5), .inr (.inr (r, 8, r + 69)), .inl (r + 69, 101, 5), .inr (.inr (r, 7, r + 68)), .inl (r + 68, 101, 5), .inr (.inr (r, 6, r + 67)), .inl (r + 67, 101, 5), .inr (.inr (r, 5, r + 61)), .inr (.inl (r + 61, 101, 5, 6)), .inr (.inr (r, 4, r + 55)), .inr (.inl (r + 55, 101, 5, 8)), .inr (.inr (r, 3, r + 54)), .inl (r + 54, 101, 24), .inr (.inr (r, 2, r + 29)), .inr (.inl (r + 29, 100, 24, 8)), .inr (.inr (r, 1, r + 14))]
def tlRk (r : Int) : List WO := tlR2 r ++ (tlCr (r + 14) ++ [.inl (r + 14, 1, 16), .inr (.inr (r, 0, r + 1))])
def tlA : List WO := [.inr (.inr (202, 2, 211)), .inl (211, 100, 6), .inr (.inr (202, 1, 204)), .inr (.inl (204, 101, 6, 60)), .inr (.inr (202, 0, 203)), .inl (203, 100, 6), .inl (202, 6, 3), .inr (.inr (0, 4, 188)), .inr (.inr (188, 4, 201)), .inl (201, 100, 100), .inr (.inr (188, 3, 190)), .inr (.inl (190, 100, 10, 6)), .inr (.inr (188, 2, 189)), .inl (189, 100, 10), .inl (188, 4, 6), .inr (.inr (0, 2, 175))]
def tlB : List WO := [.inr (.inr (0, 6, 212)), .inl (212, 102, 10), .inr (.inr (0, 5, 202))]
def tlM : List WO := [.inr (.inr (213, 41, 243)), .inl (243, 101, 60), .inr (.inr (213, 40, 242)), .inl (242, 101, 360), .inr (.inr (213, 39, 241)), .inl (241, 100, 6), .inr (.inr (213, 38, 240)), .inl (240, 100, 6), .inr (.inr (213, 34, 239)), .inl (239, 100, 10), .inr (.inr (213, 33, 238)), .inl (238, 100, 60), .inr (.inr (213, 32, 237)), .inl (237, 100, 100), .inr (.inr (213, 24, 236)), .inl (236, 102, 6), .inr (.inr (213, 23, 235)), .inl (235, 100, 6), .inr (.inr (213, 22, 234)), .inl (234, 100, 6), .inr (.inr (213, 21, 233)), .inl (233, 101, 6), .inr (.inr (213, 20, 232)), .inl (232, 101, 6), .inr (.inr (213, 19, 231)), .inl (231, 101, 6), .inr (.inr (213, 18, 230)), .inl (230, 101, 6), .inr (.inr (213, 17, 229)), .inl (229, 101, 720), .inr (.inr (213, 16, 228)), .inl (228, 101, 5), .inr (.inr (213, 15, 227)), .inl (227, 101, 6), .inr (.inr (213, 14, 226)), .inl (226, 101, 30), .inr (.inr (213, 13, 225)), .inl (225, 101, 5), .inr (.inr (213, 12, 224)), .inl (224, 101, 5), .inr (.inr (213, 11, 223)), .inl (223, 101, 5), .inr (.inr (213, 10, 222)), .inl (222, 101, 5), .inr (.inr (213, 9, 221)), .inl (221, 101, 5), .inr (.inr (213, 8, 220)), .inl (220, 101, 40), .inr (.inr (213, 7, 219)), .inl (219, 101, 24), .inr (.inr (213, 6, 218)), .inl (218, 101, 192), .inr (.inr (213, 3, 217)), .inl (217, 101, 239), .inr (.inr (213, 2, 216)), .inl (216, 101, 239), .inr (.inr (213, 1, 215)), .inl (215, 101, 239), .inr (.inr (213, 0, 214)), .inl (214, 101, 239)]
def oRk (r : Int) : List WO := tlRk r ++ (oBk (r + 1) ++ [.inl (r + 1, 0, 6)])
/-- all that the class makes; what the reference makes -/
def oX7 : List WO := tlB ++ (tlA ++ (oBk 175 ++ ([.inl (175, 0, 6), .inr (.inr (0, 1, 88))] ++ (oRk 88 ++ ([.inl (88, 3, 16), .inr (.inr (0, 0, 1))] ++ (oRk 1 ++ [.inl (1, 3, 16), .inl (0, 7, 7)]))))))
def oX8 : List WO := tlM ++ [.inl (213, 8, 42)]
def cnO (c0 : Int) : List WO → Int
  | [] => c0
  | .inl (_, _, _) :: l => cnO c0 l + 1
  | .inr (.inl (_, _, n, _)) :: l => cnO c0 l + 1 + n
  | .inr (.inr (_, _, _)) :: l => cnO c0 l
def szO : List WO → Nat
  | [] => 0
  | .inl (_, _, n) :: l => szO l + n
  | .inr (.inl (_, _, n, k)) :: l => szO l + n + n * k
  | .inr (.inr (_, _, _)) :: l => szO l
def shO : List WO → Int → Option (Nat × Nat)
  | [], _ => none
  | .inl (c, kd, n) :: l, a => if a = c then some (kd, n) else shO l a
  | .inr (.inl (c, kd, n, k)) :: l, a => if a = c then some (kd + 3, n) else if c < a ∧ a ≤ c + n then some (kd, k) else shO l a
  | .inr (.inr (_, _, _)) :: l, a => shO l a
def ptO : List WO → Int → Int → Option Int
  | [], _, _ => none
  | .inl (c, _, _) :: l, a, i => if a = c then some (-1) else ptO l a i
  | .inr (.inl (c, _, n, _)) :: l, a, i => if a = c then some (if 0 ≤ i ∧ i < n then c + 1 + i else -1) else if c < a ∧ a ≤ c + n then some (-1) else ptO l a i
  | .inr (.inr (b, j, v)) :: l, a, i => if a = b ∧ i = j then some v else ptO l a i
def okO (c0 : Int) : List WO → Bool
  | [] => true
  | .inl (c, _, _) :: l => decide (c = cnO c0 l) && okO c0 l
  | .inr (.inl (c, _, _, _)) :: l => decide (c = cnO c0 l) && okO c0 l
  | .inr (.inr (b, _, _)) :: l => decide (c0 ≤ b ∧ b < cnO c0 l) && okO c0 l
theorem wR_ev {c0 : Int} {w : gW} (hw : (w.1 : Int) = c0) : ∀ (l : List WO), okO c0 l = true → ((wR l w).1 : Int) = cnO c0 l ∧ (wR l w).2.1 = w.2.1 + szO l ∧ (∀ a, wS (wR l w) a = (shO l a).getD (wS w a)) ∧ ∀ a i, wP (wR l w) a i = (ptO l a i).getD (wP w a i)
  | [], _ => ⟨hw, rfl, fun _ => rfl, fun _ _ => rfl⟩
  | .inl (c, kd, n) :: l, h => by
    rw [okO, Bool.and_eq_true, decide_eq_true_eq] at h
    obtain ⟨h1, h2, h3, h4⟩ := wR_ev hw l h.2
    refine ⟨?_, ?_, fun a => ?_, fun a i => ?_⟩
    · show (((wR l w).1 + 1 : Nat) : Int) = cnO c0 l + 1
      omega
    · show (wR l w).2.1 + n = w.2.1 + (szO l + n)
      omega
    · show (if a = ((wR l w).1 : Int) then (kd, n) else wS (wR l w) a) = _
      rw [h1, ← h.1, h3, shO]
      split <;> rfl
    · show (if a = ((wR l w).1 : Int) then (-1 : Int) else wP (wR l w) a i) = _
      rw [h1, ← h.1, h4, ptO]
      split <;> rfl
  | .inr (.inl (c, kd, n, k)) :: l, h => by
    rw [okO, Bool.and_eq_true, decide_eq_true_eq] at h
    obtain ⟨h1, h2, h3, h4⟩ := wR_ev hw l h.2
    refine ⟨?_, ?_, fun a => ?_, fun a i => ?_⟩
    · show (((wR l w).1 + 1 + n : Nat) : Int) = cnO c0 l + 1 + n
      omega
    · show (wR l w).2.1 + n + n * k = w.2.1 + (szO l + n + n * k)
      omega
    · show (if a = ((wR l w).1 : Int) then (kd + 3, n) else if ((wR l w).1 : Int) < a ∧ a ≤ ((wR l w).1 : Int) + n then (kd, k) else wS (wR l w) a) = _
      rw [h1, ← h.1, h3, shO]
      split
      · rfl
      · split <;> rfl
    · show (if a = ((wR l w).1 : Int) then (if 0 ≤ i ∧ i < (n : Int) then ((wR l w).1 : Int) + 1 + i else -1) else if ((wR l w).1 : Int) < a ∧ a ≤ ((wR l w).1 : Int) + n then -1 else wP (wR l w) a i) = _
      rw [h1, ← h.1, h4, ptO]
      split
      · rfl
      · split <;> rfl
  | .inr (.inr (b, j, v)) :: l, h => by
    rw [okO, Bool.and_eq_true] at h
    obtain ⟨h1, h2, h3, h4⟩ := wR_ev hw l h.2
    refine ⟨h1, h2, fun a => ?_, fun a i => ?_⟩
    · show wS (wR l w) a = _
      rw [h3]
      rfl
    · show (if a = b ∧ i = j then v else wP (wR l w) a i) = _
      rw [h4, ptO]
      split <;> rfl
theorem wR_cn (w : gW) : ∀ l, w.1 ≤ (wR l w).1
  | [] => Nat.le_refl _
  | .inl (_, _, _) :: l => Nat.le_succ_of_le (wR_cn w l)
  | .inr (.inl (_, _, n, _)) :: l => by
    have := wR_cn w l
    show w.1 ≤ (wR l w).1 + 1 + n
    omega
  | .inr (.inr (_, _, _)) :: l => wR_cn w l
theorem wR_low {w : gW} {a : Int} (h : a < (w.1 : Int)) : ∀ l, wS (wR l w) a = wS w a
  | [] => rfl
  | .inl (_, _, _) :: l => by
    have := wR_cn w l
    show (if a = ((wR l w).1 : Int) then _ else wS (wR l w) a) = _
    rw [if_neg (by omega)]
    exact wR_low h l
  | .inr (.inl (_, _, n, _)) :: l => by
    have := wR_cn w l
    show (if a = ((wR l w).1 : Int) then _ else if ((wR l w).1 : Int) < a ∧ a ≤ ((wR l w).1 : Int) + n then _ else wS (wR l w) a) = _
    rw [if_neg (by omega), if_neg (by omega)]
    exact wR_low h l
  | .inr (.inr (_, _, _)) :: l => wR_low h l
def bk0 : Bk := fun t => match t with
  | 0 => (5, fun r c => if 0 ≤ r ∧ r < 5 ∧ 0 ≤ c ∧ c < 6 then lk [100, 20, 1, 10, 2, 1] c else 0)
  | _ => (0, fun _ _ => 0)
section INI
variable {L d N a b kd k n : Nat} {z q t c i v x y r s g j : Int} {w W : gW} {m m' M : gM} {K : Option gV → gW → gM → Prop} {xs : Int → Int}
theorem wNew_1 : (((wNew w a b).1 : Nat) : Int) = (w.1 : Int) + 1 := rfl
theorem wPut_1 : (((wPut w x i v).1 : Nat) : Int) = (w.1 : Int) := rfl
theorem wGrid_1 : (((wGrid w kd n k).1 : Nat) : Int) = (w.1 : Int) + 1 + n := rfl
theorem wS_new : wS (wNew w a b) x = if x = (w.1 : Int) then (a, b) else wS w x := rfl
theorem wS_grid : wS (wGrid w kd n k) x = if x = (w.1 : Int) then (kd + 3, n) else if (w.1 : Int) < x ∧ x ≤ (w.1 : Int) + n then (kd, k) else wS w x := rfl
theorem wP_put : wP (wPut w x i v) y j = if y = x ∧ j = i then v else wP w y j := rfl
theorem wP_new : wP (wNew w a b) x i = if x = (w.1 : Int) then -1 else wP w x i := rfl
theorem wS_pt : wS (wPut w x i v) = wS w := rfl
theorem mNew_ne (h : x ≠ (w.1 : Int)) : mNew w m x = m x := funext fun _ => if_neg h
theorem mNew_eq (h : x = (w.1 : Int)) : mNew w m x = fun _ => 0 := funext fun _ => if_pos h
theorem mGrid_ne (h : x < (w.1 : Int) ∨ (w.1 : Int) + n < x) : mGrid w m n x = m x := funext fun _ => if_neg (by omega)
theorem mGrid_eq (h : (w.1 : Int) ≤ x ∧ x ≤ (w.1 : Int) + n) : mGrid w m n x = fun _ => 0 := funext fun _ => if_pos h
theorem i_grow (ht : 0 ≤ t) (h1 : wS w t = (5, 4)) (h2 : wP w t 2 = c) (hc0 : 0 ≤ c) (hct : c ≠ t) (h3 : wS w c = (100, 30)) (e0 : m t 0 = 5) (e1 : m t 1 = 6) (e3 : m t 3 = g) (g0 : 0 ≤ g) (g5 : g < 5) (hz : ∀ i, 6 * g ≤ i → m c i = 0) : C (d + 2) M_X5_grow [(2, t)] w m K = K (some (0, g)) w (gU m t 3 (g + 1)) := by
  have p : ∀ (j : Int) (K : Option gV → gW → gM → Prop), 0 ≤ j → j < 6 → C (d + 1) M_X5_put [(2, t), (0, g), (0, j), (0, 0)] w m K = K none w m := fun j K j0 j1 => by
    rw [put_gen (N := 30) (v := g * 6) (n := g * 6 + j) h1 h2 h3 (by rw [e1, imul_ok (by omega) (by omega)]) (iadd_ok (by omega) (by omega)) (by omega) (by omega) hc0, gU_self (hz _ (by omega))]
  have e4 : g + 1 - 1 = g := by omega
  have it : ∀ j, 0 ≤ j → j < 6 → R (d + 1) M_X5_grow 15 [(2, t), (0, j)] [] w m K = R (d + 1) M_X5_grow 15 [(2, t), (0, j + 1)] [] w m K := fun j j0 j1 => by
    have pj := fun K' => p j K' j0 j1
    rw [s_X5_grow_15]
    simp (disch := first | assumption | omega | (simp (disch := omega) only [gU_row, gU_same, gU_i, gCp_row] <;> omega)) only [e_X5_grow, s_X5_grow_0, s_X5_grow_1, s_X5_grow_4, s_X5_grow_5, s_X5_grow_8, s_X5_grow_11, s_X5_grow_12, s_X5_grow_13, s_X5_grow_14, s_X5_grow_16, s_X5_grow_17, s_X5_grow_20, s_X5_grow_23, s_X5_grow_24, s_X5_grow_25, s_X5_grow_28, s_X5_grow_29, s_X5_grow_30, s_X5_grow_33, s_X5_grow_36, s_X5_grow_40, s_X5_grow_41, s_X5_grow_44, s_X5_grow_45, s_X5_grow_46, s_X5_grow_49, s_X5_grow_50, s_X5_grow_53, s_X5_grow_54, s_X5_grow_55, ↓reduceIte, Option.toList_some, Option.toList_none, List.cons_append, List.nil_append, List.singleton_append, List.append_nil, true_and, and_true, true_or, or_true, andT, iteT, iteF, itT, itF, h1, e1, e3, iadd_ok, pj]
  have i0 : R (d + 1) M_X5_grow 15 [(2, t), (0, 0)] [] w m K = R (d + 1) M_X5_grow 15 [(2, t), (0, 1)] [] w m K := it 0 (by omega) (by omega)
  have i1 : R (d + 1) M_X5_grow 15 [(2, t), (0, 1)] [] w m K = R (d + 1) M_X5_grow 15 [(2, t), (0, 2)] [] w m K := it 1 (by omega) (by omega)
  have i2 : R (d + 1) M_X5_grow 15 [(2, t), (0, 2)] [] w m K = R (d + 1) M_X5_grow 15 [(2, t), (0, 3)] [] w m K := it 2 (by omega) (by omega)
  have i3 : R (d + 1) M_X5_grow 15 [(2, t), (0, 3)] [] w m K = R (d + 1) M_X5_grow 15 [(2, t), (0, 4)] [] w m K := it 3 (by omega) (by omega)
  have i4 : R (d + 1) M_X5_grow 15 [(2, t), (0, 4)] [] w m K = R (d + 1) M_X5_grow 15 [(2, t), (0, 5)] [] w m K := it 4 (by omega) (by omega)
  have i5 : R (d + 1) M_X5_grow 15 [(2, t), (0, 5)] [] w m K = R (d + 1) M_X5_grow 15 [(2, t), (0, 6)] [] w m K := it 5 (by omega) (by omega)
  have en : R (d + 1) M_X5_grow 15 [(2, t), (0, 6)] [] w m K = K (some (0, g)) w (gU m t 3 (g + 1)) := by
    rw [s_X5_grow_15]
    simp (disch := first | assumption | omega | (simp (disch := omega) only [gU_row, gU_same, gU_i, gCp_row] <;> omega)) only [e_X5_grow, s_X5_grow_0, s_X5_grow_1, s_X5_grow_4, s_X5_grow_5, s_X5_grow_8, s_X5_grow_11, s_X5_grow_12, s_X5_grow_13, s_X5_grow_14, s_X5_grow_16, s_X5_grow_17, s_X5_grow_20, s_X5_grow_23, s_X5_grow_24, s_X5_grow_25, s_X5_grow_28, s_X5_grow_29, s_X5_grow_30, s_X5_grow_33, s_X5_grow_36, s_X5_grow_39, s_X5_grow_40, s_X5_grow_41, s_X5_grow_44, s_X5_grow_45, s_X5_grow_46, s_X5_grow_49, s_X5_grow_50, s_X5_grow_53, s_X5_grow_54, s_X5_grow_55, ↓reduceIte, Option.toList_some, Option.toList_none, List.cons_append, List.nil_append, List.singleton_append, List.append_nil, true_and, and_true, true_or, or_true, andT, iteT, iteF, itT, itF, h1, e1, e3, iadd_ok, isub_ok, gU_same, e4]
  rw [← en, ← i5, ← i4, ← i3, ← i2, ← i1, ← i0]
  simp (disch := first | assumption | omega | (simp (disch := omega) only [gU_row, gU_same, gU_i, gCp_row] <;> omega)) only [e_X5_grow, s_X5_grow_0, s_X5_grow_1, s_X5_grow_4, s_X5_grow_5, s_X5_grow_8, s_X5_grow_11, s_X5_grow_12, s_X5_grow_13, s_X5_grow_14, s_X5_grow_16, s_X5_grow_17, s_X5_grow_20, s_X5_grow_23, s_X5_grow_24, s_X5_grow_25, s_X5_grow_28, s_X5_grow_29, s_X5_grow_30, s_X5_grow_33, s_X5_grow_36, s_X5_grow_39, s_X5_grow_40, s_X5_grow_41, s_X5_grow_44, s_X5_grow_45, s_X5_grow_46, s_X5_grow_49, s_X5_grow_50, s_X5_grow_53, s_X5_grow_54, s_X5_grow_55, ↓reduceIte, Option.toList_some, Option.toList_none, List.cons_append, List.nil_append, List.singleton_append, List.append_nil, true_and, and_true, true_or, or_true, andT, iteT, iteF, itT, itF, h1, e0, e3]
/-- the grounds as they are at first -/
theorem i_gr (q0 : 0 ≤ q) (h0 : (wS w q).1 = 0) (p0 : wP w q 0 = q + 1) (s1 : wS w (q + 1) = (5, 4)) (p1 : wP w (q + 1) 2 = q + 2) (s2 : wS w (q + 2) = (100, 30)) (s3 : wS w (-3) = (100, 6)) (m3 : ∀ i, m (-3) i = lk [100, 20, 1, 10, 2, 1] i) (e0 : m (q + 1) 0 = 5) (e1 : m (q + 1) 1 = 6) (e3 : m (q + 1) 3 = 0) (ez : ∀ i, m (q + 2) i = 0) (hk : ∀ m', (∀ a, a ≠ q + 1 → a ≠ q + 2 → m' a = m a) → m' (q + 1) 0 = 5 → m' (q + 1) 1 = 6 → m' (q + 1) 3 = 5 → (∀ r c : Int, 0 ≤ r → r < 5 → 0 ≤ c → c < 6 → m' (q + 2) (r * 6 + c) = lk [100, 20, 1, 10, 2, 1] c) → K none w m') : R (d + 2) M_X0_init 90 [(2, q), (0, 0), (3, 0)] [] w m K := by
  refine R_for0 5 (fun g ls mm => (∃ a2, ls = [(2, q), (0, (g : Int)), a2]) ∧ (∀ a, a ≠ q + 1 → a ≠ q + 2 → mm a = m a) ∧ mm (q + 1) 0 = 5 ∧ mm (q + 1) 1 = 6 ∧ mm (q + 1) 3 = g ∧ (∀ r c : Int, 0 ≤ r → r < g → 0 ≤ c → c < 6 → mm (q + 2) (r * 6 + c) = lk [100, 20, 1, 10, 2, 1] c) ∧ ∀ i, 6 * (g : Int) ≤ i → mm (q + 2) i = 0) ⟨⟨_, rfl⟩, fun _ _ _ => rfl, e0, e1, e3, fun r c r0 r1 => by omega, fun i _ => ez i⟩ ?_ ?_
  · rintro g ls mm hg ⟨⟨a2, rfl⟩, f1, f2, f3, f4, f5, f6⟩ hn
    have kg : ∀ K : Option gV → gW → gM → Prop, C (d + 2) M_X5_grow [(2, q + 1)] w mm K = K (some (0, (g : Int))) w (gU mm (q + 1) 3 ((g : Int) + 1)) := fun K => i_grow (c := q + 2) (by omega) s1 p1 (by omega) (by omega) s2 f2 f3 f4 (by omega) (by omega) f6
    have inner : R (d + 2) M_X0_init 105 [(2, q), (0, (g : Int)), (0, 0)] [] w (gU mm (q + 1) 3 ((g : Int) + 1)) K := by
      refine R_for0 6 (fun k ls m1 => ls = [(2, q), (0, (g : Int)), (0, (k : Int))] ∧ (∀ a, a ≠ q + 1 → a ≠ q + 2 → m1 a = m a) ∧ m1 (q + 1) 0 = 5 ∧ m1 (q + 1) 1 = 6 ∧ m1 (q + 1) 3 = (g : Int) + 1 ∧ (∀ r c : Int, 0 ≤ r → (r < g ∨ (r = g ∧ c < k)) → 0 ≤ c → c < 6 → m1 (q + 2) (r * 6 + c) = lk [100, 20, 1, 10, 2, 1] c) ∧ ∀ i, 6 * (g : Int) + k ≤ i → m1 (q + 2) i = 0) ⟨rfl, fun a h1 h2 => by rw [gU_row h1]; exact f1 a h1 h2, by rw [gU_ne (by omega)]; exact f2, by rw [gU_ne (by omega)]; exact f3, gU_same .., fun r c r0 r1 c0 c1 => by rw [gU_row (by omega)]; exact f5 r c r0 (by omega) c0 c1, fun i hi => by rw [gU_row (by omega)]; exact f6 i (by omega)⟩ ?_ ?_
      · rintro k ls m1 hk1 ⟨rfl, g1, g2, g3, g4, g5, g6⟩ hn1
        have e4 : m1 (-3) (k : Int) = lk [100, 20, 1, 10, 2, 1] k := by rw [g1 (-3) (by omega) (by omega)]; exact m3 k
        have kp : ∀ K : Option gV → gW → gM → Prop, C (d + 2) M_X5_put [(2, q + 1), (0, (g : Int)), (0, (k : Int)), (0, lk [100, 20, 1, 10, 2, 1] k)] w m1 K = K none w (gU m1 (q + 2) ((g : Int) * 6 + k) (lk [100, 20, 1, 10, 2, 1] k)) := fun K => put_gen (N := 30) (v := (g : Int) * 6) s1 p1 s2 (by rw [g3, imul_ok (by omega) (by omega)]) (iadd_ok (by omega) (by omega)) (by omega) (by omega) (by omega)
        rw [s_X0_init_105]
        simp (disch := first | assumption | omega | (simp (disch := omega) only [gU_row, gU_same, gU_i, gCp_row] <;> omega)) only [e_X0_init, s_X0_init_0, s_X0_init_1, s_X0_init_4, s_X0_init_5, s_X0_init_8, s_X0_init_9, s_X0_init_10, s_X0_init_12, s_X0_init_15, s_X0_init_18, s_X0_init_19, s_X0_init_22, s_X0_init_23, s_X0_init_25, s_X0_init_26, s_X0_init_29, s_X0_init_32, s_X0_init_33, s_X0_init_36, s_X0_init_37, s_X0_init_39, s_X0_init_41, s_X0_init_44, s_X0_init_47, s_X0_init_48, s_X0_init_51, s_X0_init_52, s_X0_init_54, s_X0_init_55, s_X0_init_58, s_X0_init_61, s_X0_init_62, s_X0_init_65, s_X0_init_66, s_X0_init_67, s_X0_init_68, s_X0_init_71, s_X0_init_74, s_X0_init_75, s_X0_init_78, s_X0_init_79, s_X0_init_81, s_X0_init_82, s_X0_init_85, s_X0_init_88, s_X0_init_89, s_X0_init_91, s_X0_init_92, s_X0_init_95, s_X0_init_96, s_X0_init_99, s_X0_init_102, s_X0_init_103, s_X0_init_104, s_X0_init_106, s_X0_init_108, s_X0_init_111, s_X0_init_112, s_X0_init_115, s_X0_init_116, s_X0_init_117, s_X0_init_120, s_X0_init_121, s_X0_init_122, s_X0_init_125, s_X0_init_128, s_X0_init_131, s_X0_init_134, s_X0_init_137, ↓reduceIte, Option.toList_some, Option.toList_none, List.cons_append, List.nil_append, List.singleton_append, List.append_nil, true_and, and_true, true_or, or_true, andT, iteT, iteF, itT, itF, h0, p0, s1, s3, e4, kp, iadd_ok]
        refine hn1 _ _ ⟨by simp, fun a h1 h2 => by rw [gU_row h2]; exact g1 a h1 h2, by rw [gU_row (by omega)]; exact g2, by rw [gU_row (by omega)]; exact g3, by rw [gU_row (by omega)]; exact g4, fun r c r0 r1 c0 c1 => ?_, fun i hi => ?_⟩
        · by_cases h : r = g ∧ c = k
          · rw [h.1, h.2, gU_same]
          · rw [gU_ne (by omega)]; exact g5 r c r0 (by omega) c0 c1
        · rw [gU_ne (by omega)]; exact g6 i (by omega)
      · rintro ls m1 ⟨rfl, g1, g2, g3, g4, g5, g6⟩
        rw [s_X0_init_105]
        simp (disch := first | assumption | omega | (simp (disch := omega) only [gU_row, gU_same, gU_i, gCp_row] <;> omega)) only [e_X0_init, s_X0_init_0, s_X0_init_1, s_X0_init_4, s_X0_init_5, s_X0_init_8, s_X0_init_9, s_X0_init_10, s_X0_init_12, s_X0_init_15, s_X0_init_18, s_X0_init_19, s_X0_init_22, s_X0_init_23, s_X0_init_25, s_X0_init_26, s_X0_init_29, s_X0_init_32, s_X0_init_33, s_X0_init_36, s_X0_init_37, s_X0_init_39, s_X0_init_41, s_X0_init_44, s_X0_init_47, s_X0_init_48, s_X0_init_51, s_X0_init_52, s_X0_init_54, s_X0_init_55, s_X0_init_58, s_X0_init_61, s_X0_init_62, s_X0_init_65, s_X0_init_66, s_X0_init_67, s_X0_init_68, s_X0_init_71, s_X0_init_74, s_X0_init_75, s_X0_init_78, s_X0_init_79, s_X0_init_81, s_X0_init_82, s_X0_init_85, s_X0_init_88, s_X0_init_89, s_X0_init_91, s_X0_init_92, s_X0_init_95, s_X0_init_96, s_X0_init_99, s_X0_init_102, s_X0_init_103, s_X0_init_104, s_X0_init_106, s_X0_init_108, s_X0_init_111, s_X0_init_112, s_X0_init_115, s_X0_init_116, s_X0_init_117, s_X0_init_120, s_X0_init_121, s_X0_init_122, s_X0_init_125, s_X0_init_128, s_X0_init_131, s_X0_init_134, s_X0_init_137, ↓reduceIte, Option.toList_some, Option.toList_none, List.cons_append, List.nil_append, List.singleton_append, List.append_nil, true_and, and_true, true_or, or_true, andT, iteT, iteF, itT, itF, iadd_ok]
        exact hn _ _ ⟨⟨_, by simp; rfl⟩, g1, g2, g3, by rw [g4]; omega, fun r c r0 r1 c0 c1 => g5 r c r0 (by omega) c0 c1, fun i hi => g6 i (by omega)⟩
    rw [s_X0_init_90]
    simp (disch := first | assumption | omega | (simp (disch := omega) only [gU_row, gU_same, gU_i, gCp_row] <;> omega)) only [e_X0_init, s_X0_init_0, s_X0_init_1, s_X0_init_4, s_X0_init_5, s_X0_init_8, s_X0_init_9, s_X0_init_10, s_X0_init_12, s_X0_init_15, s_X0_init_18, s_X0_init_19, s_X0_init_22, s_X0_init_23, s_X0_init_25, s_X0_init_26, s_X0_init_29, s_X0_init_32, s_X0_init_33, s_X0_init_36, s_X0_init_37, s_X0_init_39, s_X0_init_41, s_X0_init_44, s_X0_init_47, s_X0_init_48, s_X0_init_51, s_X0_init_52, s_X0_init_54, s_X0_init_55, s_X0_init_58, s_X0_init_61, s_X0_init_62, s_X0_init_65, s_X0_init_66, s_X0_init_67, s_X0_init_68, s_X0_init_71, s_X0_init_74, s_X0_init_75, s_X0_init_78, s_X0_init_79, s_X0_init_81, s_X0_init_82, s_X0_init_85, s_X0_init_88, s_X0_init_89, s_X0_init_91, s_X0_init_92, s_X0_init_95, s_X0_init_96, s_X0_init_99, s_X0_init_102, s_X0_init_103, s_X0_init_104, s_X0_init_106, s_X0_init_108, s_X0_init_111, s_X0_init_112, s_X0_init_115, s_X0_init_116, s_X0_init_117, s_X0_init_120, s_X0_init_121, s_X0_init_122, s_X0_init_125, s_X0_init_128, s_X0_init_131, s_X0_init_134, s_X0_init_137, ↓reduceIte, Option.toList_some, Option.toList_none, List.cons_append, List.nil_append, List.singleton_append, List.append_nil, true_and, and_true, true_or, or_true, andT, iteT, iteF, itT, itF, h0, p0, s1, kg, iadd_ok]
    exact inner
  · rintro ls mm ⟨⟨a2, rfl⟩, f1, f2, f3, f4, f5, f6⟩
    rw [s_X0_init_90]
    simp (disch := first | assumption | omega | (simp (disch := omega) only [gU_row, gU_same, gU_i, gCp_row] <;> omega)) only [e_X0_init, s_X0_init_0, s_X0_init_1, s_X0_init_4, s_X0_init_5, s_X0_init_8, s_X0_init_9, s_X0_init_10, s_X0_init_12, s_X0_init_15, s_X0_init_18, s_X0_init_19, s_X0_init_22, s_X0_init_23, s_X0_init_25, s_X0_init_26, s_X0_init_29, s_X0_init_32, s_X0_init_33, s_X0_init_36, s_X0_init_37, s_X0_init_39, s_X0_init_41, s_X0_init_44, s_X0_init_47, s_X0_init_48, s_X0_init_51, s_X0_init_52, s_X0_init_54, s_X0_init_55, s_X0_init_58, s_X0_init_61, s_X0_init_62, s_X0_init_65, s_X0_init_66, s_X0_init_67, s_X0_init_68, s_X0_init_71, s_X0_init_74, s_X0_init_75, s_X0_init_78, s_X0_init_79, s_X0_init_81, s_X0_init_82, s_X0_init_85, s_X0_init_88, s_X0_init_89, s_X0_init_91, s_X0_init_92, s_X0_init_95, s_X0_init_96, s_X0_init_99, s_X0_init_102, s_X0_init_103, s_X0_init_104, s_X0_init_106, s_X0_init_108, s_X0_init_111, s_X0_init_112, s_X0_init_115, s_X0_init_116, s_X0_init_117, s_X0_init_120, s_X0_init_121, s_X0_init_122, s_X0_init_125, s_X0_init_128, s_X0_init_131, s_X0_init_134, s_X0_init_137, ↓reduceIte, Option.toList_some, Option.toList_none, List.cons_append, List.nil_append, List.singleton_append, List.append_nil, true_and, and_true, true_or, or_true, andT, iteT, iteF, itT, itF]
    exact hk mm f1 f2 f3 f4 f5
def wAl (w : gW) (kd n : Nat) (x i t : Int) : gW := wPut (wNew w kd n) x i t
def wGr (w : gW) (kd n k : Nat) (x i t : Int) : gW := wPut (wGrid w kd n k) x i t
theorem wAl_1 : (((wAl w kd n x i t).1 : Nat) : Int) = (w.1 : Int) + 1 := rfl
theorem wGr_1 : (((wGr w kd n k x i t).1 : Nat) : Int) = (w.1 : Int) + 1 + n := rfl
theorem wAl_s (h : y < (w.1 : Int)) (hs : (wS w y).1 = N) : (wS (wAl w kd n x i t) y).1 = N := by
  show (if y = (w.1 : Int) then _ else wS w y).1 = N
  rw [if_neg (by omega)]
  exact hs
theorem wGr_s (h : y < (w.1 : Int)) (hs : (wS w y).1 = N) : (wS (wGr w kd n k x i t) y).1 = N := by
  show (if y = (w.1 : Int) then _ else if (w.1 : Int) < y ∧ y ≤ (w.1 : Int) + n then _ else wS w y).1 = N
  rw [if_neg (by omega), if_neg (by omega)]
  exact hs
end INI
