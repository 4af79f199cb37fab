/-! CREDITS: all orders, plainly. -/
def rg (n : Nat) : List Int := (List.range n).map (fun i : Nat => (i : Int))
def frn (n : Nat) (pre : List Int) : List Int := (rg n).filter (fun o => decide (o ∉ pre))
def cmpl (n : Nat) : Nat → List Int → List (List Int)
  | 0, pre => [pre]
  | k + 1, pre => (frn n pre).flatMap (fun o => cmpl n k (pre ++ [o]))
def wkS (b : Bk) (s : (Int → Int) × Int) (o : Int) : (Int → Int) × Int := (tk b s.1 o (pTm b s.1 o), s.2 + pCr b o (pTm b s.1 o))
def wk (b : Bk) (l : List Int) : (Int → Int) × Int := l.foldl (wkS b) (pX0 b, 0)
def bs1 (b : Bk) (acc : Int × List Int) (l : List Int) : Int × List Int := if acc.1 < (wk b l).2 then ((wk b l).2, l) else acc
def bst (b : Bk) (acc : Int × List Int) (ls : List (List Int)) : Int × List Int := ls.foldl (bs1 b) acc
def pHp (b : Bk) (x : Int → Int) (pre : List Int) (n : Nat) : Int := it (fun o s => if o ∈ pre then s else s + pCr b o (pTm b x o)) 0 n
def PreOk (b : Bk) (pre : List Int) : Prop := ∀ o, o ∈ pre → 0 ≤ o ∧ o < (b 2).1
theorem rg_s (n : Nat) : rg (n + 1) = rg n ++ [(n : Int)] := by
  unfold rg
  rw [List.range_succ, List.map_append]
  rfl
theorem frn_s_in {n : Nat} {pre : List Int} (h : (n : Int) ∈ pre) : frn (n + 1) pre = frn n pre := by
  unfold frn
  rw [rg_s, List.filter_append]
  simp [h]
theorem frn_s_out {n : Nat} {pre : List Int} (h : (n : Int) ∉ pre) : frn (n + 1) pre = frn n pre ++ [(n : Int)] := by
  unfold frn
  rw [rg_s, List.filter_append]
  simp [h]
theorem mem_frn {n : Nat} {pre : List Int} {o : Int} (h : o ∈ frn n pre) : 0 ≤ o ∧ o < (n : Int) ∧ o ∉ pre := by
  unfold frn rg at h
  rw [List.mem_filter, List.mem_map] at h
  obtain ⟨⟨i, h1, rfl⟩, h2⟩ := h
  rw [List.mem_range] at h1
  exact ⟨by omega, by omega, by simpa using h2⟩
theorem wk_s {b : Bk} {pre : List Int} {o : Int} : wk b (pre ++ [o]) = wkS b (wk b pre) o := by
  unfold wk
  rw [List.foldl_append]
  rfl
theorem bst_app {b : Bk} {acc : Int × List Int} {l1 l2 : List (List Int)} : bst b acc (l1 ++ l2) = bst b (bst b acc l1) l2 := by
  unfold bst
  rw [List.foldl_append]
theorem bst_le {b : Bk} {acc : Int × List Int} : ∀ ls : List (List Int), (∀ l, l ∈ ls → (wk b l).2 ≤ acc.1) → bst b acc ls = acc := by
  intro ls
  induction ls with
  | nil => intro _; rfl
  | cons l ls ih =>
    intro h
    have h1 := h l (by simp)
    show bst b (bs1 b acc l) ls = acc
    have e : bs1 b acc l = acc := if_neg (by omega)
    rw [e]
    exact ih (fun l' hl => h l' (by simp [hl]))
section DFS
variable {L d N : Nat} {z X Y q r v t c g j k e s o u : Int} {w : gW} {m : gM} {K : Option gV → gW → gM → Prop} {b b' : Bk} {xs x y : Int → Int} {F Q : Prop} {n : Nat}
theorem PreOk_s {pre : List Int} (h : PreOk b pre) (o0 : 0 ≤ o) (o1 : o < (b 2).1) : PreOk b (pre ++ [o]) := by
  intro o' ho
  rcases List.mem_append.mp ho with ho | ho
  · exact h o' ho
  · have : o' = o := by simpa using ho
    subst this
    exact ⟨o0, o1⟩
theorem wkS_ok {s : (Int → Int) × Int} (hP : PB b) (hx : Xok b s.1) (o0 : 0 ≤ o) (o1 : o < (b 2).1) : Xok b (wkS b s o).1 ∧ s.2 ≤ (wkS b s o).2 ∧ (wkS b s o).2 ≤ s.2 + 21474837 := by
  have tb := tm_bd hP hx o0 o1
  have cb := cr_bd hP o0 o1 tb.1 tb.2.1
  refine ⟨tk_ok hP hx o0 o1, ?_, ?_⟩
  · show s.2 ≤ s.2 + pCr b o (pTm b s.1 o)
    omega
  · show s.2 + pCr b o (pTm b s.1 o) ≤ s.2 + 21474837
    omega
theorem wk_ok_aux (hP : PB b) : ∀ (l : List Int) (s : (Int → Int) × Int), PreOk b l → Xok b s.1 → Xok b (l.foldl (wkS b) s).1 ∧ s.2 ≤ (l.foldl (wkS b) s).2 ∧ (l.foldl (wkS b) s).2 ≤ s.2 + 21474837 * l.length := by
  intro l
  induction l with
  | nil => intro s _ hx; exact ⟨hx, Int.le_refl _, by simp⟩
  | cons o l ih =>
    intro s hl hx
    have ho := hl o (by simp)
    have a := wkS_ok hP hx ho.1 ho.2
    have c := ih (wkS b s o) (fun o' h => hl o' (by simp [h])) a.1
    refine ⟨c.1, ?_, ?_⟩
    · have := c.2.1
      show s.2 ≤ (l.foldl (wkS b) (wkS b s o)).2
      omega
    · have := c.2.2
      show (l.foldl (wkS b) (wkS b s o)).2 ≤ _
      rw [List.length_cons]
      omega
theorem wk_ok {pre : List Int} (hP : PB b) (hp : PreOk b pre) : Xok b (wk b pre).1 ∧ 0 ≤ (wk b pre).2 ∧ (wk b pre).2 ≤ 21474837 * pre.length := by
  have := wk_ok_aux hP pre (pX0 b, 0) hp (Xok_0 hP)
  refine ⟨this.1, this.2.1, ?_⟩
  have h := this.2.2
  unfold wk
  omega
theorem tm_mono (hP : PB b) (hx : ∀ g, 0 ≤ g → g < 5 → x g ≤ y g) (o0 : 0 ≤ o) (o1 : o < (b 2).1) : pTm b x o ≤ pTm b y o := by
  have a := hP.2.1 o o0 o1
  unfold pTm
  by_cases hs : pSu b o = 1
  · rw [if_pos hs, if_pos hs]
    have e1 := Int.ediv_le_ediv (c := 10 * (b 2).2 o 2) (by omega) (hx _ a.1.1 a.1.2)
    have e2 := Int.ediv_le_ediv (c := 10 * (b 2).2 o 3) (by omega) (hx _ a.2.1.1 a.2.1.2)
    omega
  · rw [if_neg hs, if_neg hs]
    omega
theorem tk_le (hP : PB b) (hx : Xok b x) (o0 : 0 ≤ o) (o1 : o < (b 2).1) (g : Int) : tk b x o (pTm b x o) g ≤ x g := by
  have a := hP.2.1 o o0 o1
  have tb := tm_bd hP hx o0 o1
  have n1 := Int.mul_nonneg (a := pTm b x o) (b := 10 * (b 2).2 o 2) tb.1 (by omega)
  have n2 := Int.mul_nonneg (a := pTm b x o) (b := 10 * (b 2).2 o 3) tb.1 (by omega)
  unfold tk
  split
  · omega
  · split <;> omega
theorem pHp_bd {pre : List Int} (hP : PB b) (hx : Xok b x) (hn : (n : Int) ≤ (b 2).1) : 0 ≤ pHp b x pre n ∧ pHp b x pre n ≤ 21474837 * n := by
  induction n with
  | zero => simp [pHp, it]
  | succ n ih =>
    have a := ih (by omega)
    have tb := tm_bd hP hx (show (0 : Int) ≤ n by omega) (by omega)
    have cb := cr_bd hP (show (0 : Int) ≤ n by omega) (by omega) tb.1 tb.2.1
    have e : pHp b x pre (n + 1) = if (n : Int) ∈ pre then pHp b x pre n else pHp b x pre n + pCr b n (pTm b x n) := rfl
    rw [e]
    split <;> omega
theorem hp_step {pre : List Int} (hP : PB b) (hx : Xok b x) (o0 : 0 ≤ o) (o1 : o < (b 2).1) (ho : o ∉ pre) (hn : (n : Int) ≤ (b 2).1) : pHp b (tk b x o (pTm b x o)) (pre ++ [o]) n + (if o < (n : Int) then pCr b o (pTm b x o) else 0) ≤ pHp b x pre n := by
  induction n with
  | zero => rw [if_neg (by omega)]; simp [pHp, it]
  | succ n ih =>
    have a := ih (by omega)
    have tb := tm_bd hP hx (show (0 : Int) ≤ n by omega) (by omega)
    have tb' := tm_bd hP (tk_ok hP hx o0 o1) (show (0 : Int) ≤ n by omega) (by omega)
    have tm := tm_mono hP (x := tk b x o (pTm b x o)) (y := x) (o := n) (fun g _ _ => tk_le hP hx o0 o1 g) (by omega) (by omega)
    have cm := cr_mono hP (o := n) (by omega) (by omega) tb'.1 tm tb.2.1
    have e : pHp b x pre (n + 1) = if (n : Int) ∈ pre then pHp b x pre n else pHp b x pre n + pCr b n (pTm b x n) := rfl
    have e' : pHp b (tk b x o (pTm b x o)) (pre ++ [o]) (n + 1) = if (n : Int) ∈ pre ++ [o] then pHp b (tk b x o (pTm b x o)) (pre ++ [o]) n else pHp b (tk b x o (pTm b x o)) (pre ++ [o]) n + pCr b n (pTm b (tk b x o (pTm b x o)) n) := rfl
    rw [e, e']
    by_cases hno : (n : Int) = o
    · have h1 : (n : Int) ∉ pre := by rw [hno]; exact ho
      rw [if_pos (by simp [hno]), if_pos (by omega), if_neg h1]
      rw [if_neg (by omega)] at a
      rw [hno]
      omega
    · by_cases hp : (n : Int) ∈ pre
      · rw [if_pos (by simp [hp]), if_pos hp]
        by_cases hlt : o < (n : Int)
        · rw [if_pos hlt] at a
          rw [if_pos (by omega)]
          exact a
        · rw [if_neg hlt] at a
          rw [if_neg (by omega)]
          exact a
      · rw [if_neg (by simp [hp, hno]), if_neg hp]
        by_cases hlt : o < (n : Int)
        · rw [if_pos hlt] at a
          rw [if_pos (by omega)]
          omega
        · rw [if_neg hlt] at a
          rw [if_neg (by omega)]
          omega
theorem prune (hP : PB b) (hn : (n : Int) = (b 2).1) : ∀ (k : Nat) (pre : List Int), PreOk b pre → ∀ l, l ∈ cmpl n k pre → (wk b l).2 ≤ (wk b pre).2 + pHp b (wk b pre).1 pre n := by
  intro k
  induction k with
  | zero =>
    intro pre hp l hl
    have : l = pre := by simpa [cmpl] using hl
    subst this
    have := (pHp_bd (n := n) (pre := l) hP (wk_ok hP hp).1 (by omega)).1
    omega
  | succ k ih =>
    intro pre hp l hl
    rw [cmpl, List.mem_flatMap] at hl
    obtain ⟨o, ho, hl⟩ := hl
    have a := mem_frn ho
    have h1 := ih (pre ++ [o]) (PreOk_s hp a.1 (by omega)) l hl
    have h2 := hp_step (n := n) hP (wk_ok hP hp).1 a.1 (by omega) a.2.2 (by omega)
    rw [if_pos (by omega)] at h2
    rw [wk_s] at h1
    have e1 : (wkS b (wk b pre) o).2 = (wk b pre).2 + pCr b o (pTm b (wk b pre).1 o) := rfl
    have e2 : (wkS b (wk b pre) o).1 = tk b (wk b pre).1 o (pTm b (wk b pre).1 o) := rfl
    rw [e1, e2] at h1
    omega
end DFS
