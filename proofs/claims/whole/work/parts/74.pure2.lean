/-! PURE: what is fine stays so. -/
theorem tDropN_row {c : Int} : ∀ (n : Nat) (T : Tb), (n : Int) ≤ T.1 → ((tDropN n T c).1 ≤ T.1 ∧ T.1 - n ≤ (tDropN n T c).1) ∧ ∀ r, 0 ≤ r → r < (tDropN n T c).1 → ∃ r', 0 ≤ r' ∧ r' < T.1 ∧ ∀ c', (tDropN n T c).2 r c' = T.2 r' c' := by
  intro n
  induction n with
  | zero => intro T _; exact ⟨⟨Int.le_refl _, by show T.1 - 0 ≤ T.1; omega⟩, fun r r0 r1 => ⟨r, r0, r1, fun _ => rfl⟩⟩
  | succ n ih =>
    intro T hn
    rw [tDropN]
    by_cases h : T.2 n c = 0
    · rw [if_pos h]
      have e1 : (tRem T n).1 = T.1 - 1 := rfl
      have e2 : ∀ r c', (tRem T n).2 r c' = if r < (n : Int) then T.2 r c' else T.2 (r + 1) c' := fun r c' => rfl
      obtain ⟨a, a2⟩ := ih (tRem T n) (by omega)
      refine ⟨by omega, fun r r0 r1 => ?_⟩
      obtain ⟨r', h0, h1, h2⟩ := a2 r r0 r1
      by_cases hr : r' < (n : Int)
      · exact ⟨r', h0, by omega, fun c' => by rw [h2, e2, if_pos hr]⟩
      · exact ⟨r' + 1, by omega, by omega, fun c' => by rw [h2, e2, if_neg hr]⟩
    · rw [if_neg h]
      obtain ⟨a, a2⟩ := ih T (by omega)
      exact ⟨by omega, a2⟩
theorem tDrop_row {T : Tb} {c : Int} (h0 : 0 ≤ T.1) : (0 ≤ (tDrop T c).1 ∧ (tDrop T c).1 ≤ T.1) ∧ ∀ r, 0 ≤ r → r < (tDrop T c).1 → ∃ r', 0 ≤ r' ∧ r' < T.1 ∧ ∀ c', (tDrop T c).2 r c' = T.2 r' c' := by
  have := tDropN_row (c := c) T.1.toNat T (by omega)
  exact ⟨by unfold tDrop; omega, this.2⟩
section PURE2
variable {q r v t c g j k e s o u x y : Int} {b b' b2 kb : Bk} {T : Tb} {n : Nat}
theorem Fine_4 : Fine (bSet b 4 T) = Fine b := rfl
theorem Fine_5 : Fine (bSet b 5 T) = Fine b := rfl
theorem DerC_4 {m : gM} : DerC m r (bSet b 4 T) = DerC m r b := rfl
theorem DerC_5 {m : gM} : DerC m r (bSet b 5 T) = DerC m r b := rfl
theorem wk_4 : wk (bSet b 4 T) = wk b := rfl
theorem bst_4 : bst (bSet b 4 T) = bst b := rfl
theorem pU_4 : pU (bSet b 4 T) = pU b := rfl
theorem pCr_4 : pCr (bSet b 4 T) = pCr b := rfl
theorem MS_4 {m : gM} : MS m (bSet b 4 T) = MS m b := rfl
theorem pMargin_4 : pMargin (bSet b 4 T) = pMargin b := rfl
theorem BST_4 {m : gM} {done : List (List Int)} : BST m (bSet b 4 T) done = BST m b done := by
  unfold BST
  rw [bst_4, wk_4, pU_4, pCr_4]
  rfl
theorem DerM_4 {m : gM} : DerM m (bSet b 4 T) = DerM m b := by
  unfold DerM
  rw [MS_4, BST_4, pMargin_4]
  rfl
theorem wk_5 : wk (bSet b 5 T) = wk b := rfl
theorem bst_5 : bst (bSet b 5 T) = bst b := rfl
theorem pU_5 : pU (bSet b 5 T) = pU b := rfl
theorem pCr_5 : pCr (bSet b 5 T) = pCr b := rfl
theorem MS_5 {m : gM} : MS m (bSet b 5 T) = MS m b := rfl
theorem pMargin_5 : pMargin (bSet b 5 T) = pMargin b := rfl
theorem BST_5 {m : gM} {done : List (List Int)} : BST m (bSet b 5 T) done = BST m b done := by
  unfold BST
  rw [bst_5, wk_5, pU_5, pCr_5]
  rfl
theorem DerM_5 {m : gM} : DerM m (bSet b 5 T) = DerM m b := by
  unfold DerM
  rw [MS_5, BST_5, pMargin_5]
  rfl
theorem pm_nn {x : Int → Int} {e f : Int} : 0 ≤ pm x e f := by
  unfold pm
  split
  · omega
  · split <;> omega
theorem chIt_nn {sp gap : Int} {st : (Int → Int) × Int} (hs : 0 ≤ sp) (hg : 0 ≤ gap) : ∀ n : Nat, st.2 ≤ (it (chStep sp gap) st n).2 := by
  intro n
  induction n with
  | zero => exact Int.le_refl _
  | succ n ih =>
    have e : (it (chStep sp gap) st (n + 1)).2 = (it (chStep sp gap) st n).2 + td (pm (it (chStep sp gap) st n).1 n (n + gap) * sp * gap) 10 := rfl
    have h := Int.mul_nonneg (Int.mul_nonneg (pm_nn (x := (it (chStep sp gap) st n).1) (e := n) (f := n + gap)) hs) hg
    rw [e, td_nn h]
    omega
theorem chO_nn {sp : Int} {x : Int → Int} (hs : 0 ≤ sp) : ∀ k : Nat, 0 ≤ (chO sp x k).2 := by
  intro k
  induction k with
  | zero => exact Int.le_refl _
  | succ k ih =>
    have := chIt_nn (st := chO sp x k) (gap := (k : Int) + 1) hs (by omega) (5 - k)
    have e : (chO sp x (k + 1)).2 = (it (chStep sp (k + 1)) (chO sp x k) (5 - k)).2 := rfl
    omega
theorem pChs_nn (hg : WfG b) : 0 ≤ pChsN b 5 := by
  have a : ∀ g, 0 ≤ g → g < 5 → 0 ≤ pCh b g := fun g g0 g1 => chO_nn (by have := hg g g0 g1; omega) 5
  have a0 := a 0 (by omega) (by omega)
  have a1 := a 1 (by omega) (by omega)
  have a2 := a 2 (by omega) (by omega)
  have a3 := a 3 (by omega) (by omega)
  have a4 := a 4 (by omega) (by omega)
  have e : pChsN b 5 = 0 + pCh b 0 + pCh b 1 + pCh b 2 + pCh b 3 + pCh b 4 := rfl
  omega
theorem most_bd (hP : PB b) : 0 ≤ pMost b ∧ pMost b ≤ 200000000 := by
  have h0 := pMost_nn hP
  have key : ∀ (ls : List (List Int)) (acc : Int × List Int), acc.1 ≤ 200000000 → (∀ l, l ∈ ls → (wk b l).2 ≤ 200000000) → (bst b acc ls).1 ≤ 200000000 := by
    intro ls
    induction ls with
    | nil => intro acc h _; exact h
    | cons l ls ih =>
      intro acc h hl
      show (bst b (bs1 b acc l) ls).1 ≤ _
      refine ih _ ?_ (fun l' h' => hl l' (by simp [h']))
      unfold bs1
      split
      · exact hl l (by simp)
      · exact h
  have := key (cmpl (b 2).1.toNat (b 2).1.toNat []) (-1, []) (by decide) (fun l hl => by
    obtain ⟨h1, h2⟩ := cmpl_PreN (b 2).1.toNat [] (PreN_0 _) (by simp) l hl
    have h3 := (wk_ok (pre := l) hP (fun o ho => by have := h1.2.1 o ho; have := hP.1; omega)).2.2
    have := hP.1
    rw [h2] at h3
    omega)
  exact ⟨h0, this⟩
theorem per_bd (hG : GroundOk b g) : 0 ≤ pPer b g ∧ pPer b g ≤ 2147483647 := by
  have h2 := GroundOk_scan hG
  have h3 := hG.2.2.2.2.2
  unfold okI at h3
  unfold pPer
  split
  · omega
  · have hp : 0 < ab (pDel b g) := by unfold ab; split <;> omega
    have := div_bd (a := 10 * pScan b g) hp (by omega)
    omega
theorem PB_fine (h2 : 0 ≤ (b 2).1 ∧ (b 2).1 ≤ 6) (hO : WfO b) (hG : ∀ g, 0 ≤ g → g < 5 → GroundOk b g) (hV : ∀ o, 0 ≤ o → o < (b 2).1 → OffOk b o) : PB b := by
  refine ⟨h2, hO, hV, fun g g0 g1 => per_bd (hG g g0 g1), fun g g0 g1 => ?_⟩
  have h1 := (hG g g0 g1).2.2.1
  have h2 := ab_nn (pDel b g)
  unfold okI at h1
  exact ⟨h2, h1.2⟩
theorem Fine_mk (h2 : 0 ≤ (b 2).1 ∧ (b 2).1 ≤ 6) (hg : WfG b) (hO : WfO b) (hQ : WfQ b) (hL : ∀ l, 0 ≤ l → l < (b 3).1 → LegOk b l) (hG : ∀ g, 0 ≤ g → g < 5 → GroundOk b g) (hA : AllOk b) (hV : ∀ o, 0 ≤ o → o < (b 2).1 → OffOk b o) : Fine b := by
  have hP := PB_fine h2 hO hG hV
  have mb := most_bd hP
  have cn := pChs_nn hg
  have sn := (sums_bd (b := b) (n := 5) (fun g g0 g1 => hG g g0 (by omega))).1
  have ha := hA.2.2.2.2.1
  unfold okI at ha
  refine ⟨hQ, hL, hG, hA, hV, ⟨by omega, by omega⟩, ?_, ?_⟩
  · unfold pNet
    omega
  · unfold pNet
    omega
/-! a move goes -/
def sg (i j : Int) : Int := if j < i then j else j + 1
theorem sg_bd {i : Int} (h0 : 0 ≤ j) (h1 : j < t - 1) : 0 ≤ sg i j ∧ sg i j < t := by
  unfold sg
  split <;> omega
theorem rem_e {i : Int} : (tRem T i).2 j c = T.2 (sg i j) c := by
  show (if j < i then T.2 j c else T.2 (j + 1) c) = _
  unfold sg
  split <;> rfl
theorem st_price {i : Int} (h0 : 0 ≤ j) (h1 : j < (b 1).1 - 1) : pPrice (bSet b 1 (tRem (b 1) i)) g j = pPrice b g (sg i j) := by
  have a := sg_bd (i := i) h0 h1
  have e : (bSet b 1 (tRem (b 1) i) 1).2 j 0 = (b 1).2 (sg i j) 0 := rem_e
  have e1 : (bSet b 1 (tRem (b 1) i) 1).1 = (b 1).1 - 1 := rfl
  have e0 : bSet b 1 (tRem (b 1) i) 0 = b 0 := rfl
  unfold pPrice
  rw [e, e1, e0, if_pos ⟨h0, h1⟩, if_pos a]
theorem st_unr {i : Int} (h0 : 0 ≤ j) (h1 : j < (b 1).1 - 1) : pUnr (bSet b 1 (tRem (b 1) i)) g j = pUnr b g (sg i j) := by
  have a := sg_bd (i := i) h0 h1
  have e : (bSet b 1 (tRem (b 1) i) 1).2 j 1 = (b 1).2 (sg i j) 1 := rem_e
  have e1 : (bSet b 1 (tRem (b 1) i) 1).1 = (b 1).1 - 1 := rfl
  have e0 : bSet b 1 (tRem (b 1) i) 0 = b 0 := rfl
  unfold pUnr
  rw [e, e1, e0, if_pos ⟨h0, h1⟩, if_pos a]
theorem st_B {i l : Int} (h0 : 0 ≤ j) (h1 : j < (b 1).1 - 1) : pB (bSet b 1 (tRem (b 1) i)) l j = pB b l (sg i j) := by
  have e : pLess (bSet b 1 (tRem (b 1) i)) l j = pLess b l (sg i j) := by
    unfold pLess
    rw [st_price h0 h1, st_unr h0 h1]
    rfl
  unfold pB
  rw [e]
  rfl
theorem st_C {i l : Int} (h0 : 0 ≤ j) (h1 : j < (b 1).1 - 1) : pC (bSet b 1 (tRem (b 1) i)) l j = pC b l (sg i j) := by
  have e : (bSet b 1 (tRem (b 1) i) 1).2 j 2 = (b 1).2 (sg i j) 2 := rem_e
  unfold pC
  rw [e, st_B h0 h1]
theorem st_row {i : Int} (h0 : 0 ≤ j) (h1 : j < (b 1).1 - 1) : ∀ n : Nat, pRow (bSet b 1 (tRem (b 1) i)) g j n = pRow b g (sg i j) n := by
  intro n
  induction n with
  | zero => rfl
  | succ n ih =>
    have e3 : bSet b 1 (tRem (b 1) i) 3 = b 3 := rfl
    rw [pRow_s, pRow_s, ih, e3]
    unfold pLoss
    rw [st_C h0 h1]
theorem st_rowT {i : Int} (h0 : 0 ≤ j) (h1 : j < (b 1).1 - 1) : pRowT (bSet b 1 (tRem (b 1) i)) g j = pRowT b g (sg i j) := st_row h0 h1 _
theorem st_tot {i : Int} (h0 : 0 ≤ j) (h1 : j < (b 1).1 - 1) : pTot (bSet b 1 (tRem (b 1) i)) j = pTot b (sg i j) := by
  have key : ∀ n : Nat, pTotN (bSet b 1 (tRem (b 1) i)) j n = pTotN b (sg i j) n := by
    intro n
    induction n with
    | zero => rfl
    | succ n ih => rw [pTotN_s, pTotN_s, ih, st_rowT h0 h1]
  exact key 5
theorem scan_ge : ∀ (n : Nat) (j : Int), 0 ≤ j → j < (n : Int) → pRowT b g j ≤ pScanN b g n := by
  intro n
  induction n with
  | zero => intro j h0 h1; omega
  | succ n ih =>
    intro j h0 h1
    rw [pScanN_s]
    by_cases hj : j = n
    · subst hj
      omega
    · have := ih j h0 (by omega)
      omega
theorem scan_le (h0 : 0 ≤ s) : ∀ n : Nat, (∀ j, 0 ≤ j → j < (n : Int) → pRowT b g j ≤ s) → pScanN b g n ≤ s := by
  intro n
  induction n with
  | zero => intro _; exact h0
  | succ n ih =>
    intro h
    have a := ih (fun j j0 j1 => h j j0 (by omega))
    have c := h n (by omega) (by omega)
    rw [pScanN_s]
    omega
theorem st_scan {i : Int} (hG : GroundOk b g) (hi : 0 ≤ i ∧ i < (b 1).1) : 0 ≤ pScan (bSet b 1 (tRem (b 1) i)) g ∧ pScan (bSet b 1 (tRem (b 1) i)) g ≤ pScan b g := by
  have e1 : (bSet b 1 (tRem (b 1) i) 1).1 = (b 1).1 - 1 := rfl
  have h0 := (GroundOk_scan hG).1
  constructor
  · refine (pScanN_bd (fun j j0 j1 => ?_)).1
    rw [e1] at j1
    rw [st_rowT j0 (by omega)]
    have := sg_bd (t := (b 1).1) (i := i) j0 (by omega)
    exact hG.1 _ this.1 this.2
  · refine scan_le h0 _ (fun j j0 j1 => ?_)
    rw [e1] at j1
    rw [st_rowT j0 (by omega)]
    have := sg_bd (t := (b 1).1) (i := i) j0 (by omega)
    exact scan_ge (b 1).1.toNat _ this.1 (by omega)
theorem mul_mono (h0 : 0 ≤ t) (h1 : 0 ≤ x) (h2 : x ≤ y) : 0 ≤ t * x ∧ t * x ≤ t * y := ⟨Int.mul_nonneg h0 h1, Int.mul_le_mul_of_nonneg_left h2 h0⟩
set_option maxHeartbeats 400000 in
theorem Fine_still {i : Int} (hf : Fine b) (hg : WfG b) (hO : WfO b) (h2 : 0 ≤ (b 2).1 ∧ (b 2).1 ≤ 6) (hi : 0 ≤ i ∧ i < (b 1).1) : Fine (bSet b 1 (tRem (b 1) i)) := by
  obtain ⟨hQ, hL, hG, hA, hV, hM, hN⟩ := hf
  have e1 : (bSet b 1 (tRem (b 1) i) 1).1 = (b 1).1 - 1 := rfl
  have sc : ∀ g, 0 ≤ g → g < 5 → 0 ≤ pScan (bSet b 1 (tRem (b 1) i)) g ∧ pScan (bSet b 1 (tRem (b 1) i)) g ≤ pScan b g := fun g g0 g1 => st_scan (hG g g0 g1) hi
  have hG' : ∀ g, 0 ≤ g → g < 5 → GroundOk (bSet b 1 (tRem (b 1) i)) g := fun g g0 g1 => by
    have a := hG g g0 g1
    have s := sc g g0 g1
    have h5 := a.2.2.2.2.2
    unfold okI at h5
    refine ⟨fun j j0 j1 => ?_, a.2.1, a.2.2.1, a.2.2.2.1, a.2.2.2.2.1, ⟨by omega, by omega⟩⟩
    rw [e1] at j1
    have := sg_bd (t := (b 1).1) (i := i) j0 (by omega)
    rw [st_rowT j0 (by omega)]
    exact a.1 _ this.1 this.2
  have pr : ∀ g, 0 ≤ g → g < 5 → 0 ≤ pPer (bSet b 1 (tRem (b 1) i)) g ∧ pPer (bSet b 1 (tRem (b 1) i)) g ≤ pPer b g := fun g g0 g1 => by
    have s := sc g g0 g1
    refine ⟨(per_bd (hG' g g0 g1)).1, ?_⟩
    unfold pPer
    rw [show pDel (bSet b 1 (tRem (b 1) i)) g = pDel b g from rfl]
    by_cases hd : pDel b g = 0
    · rw [if_pos hd, if_pos hd]
      exact Int.le_refl _
    · rw [if_neg hd, if_neg hd]
      have hp : 0 < ab (pDel b g) := by unfold ab; split <;> omega
      exact Int.ediv_le_ediv hp (by omega)
  refine Fine_mk h2 hg hO hQ (fun l l0 l1 => ?_) hG' ?_ (fun o o0 o1 hs => ?_)
  · obtain ⟨p1, p2, p3, p4⟩ := hL l l0 l1
    refine ⟨fun h => p1 (by omega), fun j j0 j1 => ?_, p3, p4⟩
    rw [e1] at j1
    have := sg_bd (t := (b 1).1) (i := i) j0 (by omega)
    rw [st_B j0 (by omega), st_C j0 (by omega)]
    exact p2 _ this.1 this.2
  · obtain ⟨p1, p2, p3, p4, p5, p6⟩ := hA
    have q2 := p2
    have q5 := p5
    unfold okI at q2 q5
    have cn := pChs_nn hg
    have s0 := sc 0 (by omega) (by omega)
    have s1 := sc 1 (by omega) (by omega)
    have s2 := sc 2 (by omega) (by omega)
    have s3 := sc 3 (by omega) (by omega)
    have s4 := sc 4 (by omega) (by omega)
    have es : pScansN b 5 = 0 + pScan b 0 + pScan b 1 + pScan b 2 + pScan b 3 + pScan b 4 := rfl
    have es' : pScansN (bSet b 1 (tRem (b 1) i)) 5 = 0 + pScan (bSet b 1 (tRem (b 1) i)) 0 + pScan (bSet b 1 (tRem (b 1) i)) 1 + pScan (bSet b 1 (tRem (b 1) i)) 2 + pScan (bSet b 1 (tRem (b 1) i)) 3 + pScan (bSet b 1 (tRem (b 1) i)) 4 := rfl
    have ec : pChsN (bSet b 1 (tRem (b 1) i)) 5 = pChsN b 5 := rfl
    refine ⟨p1, ⟨by omega, by omega⟩, p3, p4, ⟨by omega, by omega⟩, fun j j0 j1 => ?_⟩
    rw [e1] at j1
    have := sg_bd (t := (b 1).1) (i := i) j0 (by omega)
    rw [st_tot j0 (by omega)]
    exact p6 _ this.1 this.2
  · have a := hO o o0 o1
    obtain ⟨q1, q2, q3, q4, q5⟩ := hV o o0 o1 hs
    have r1 := pr _ a.1.1 a.1.2
    have r2 := pr _ a.2.1.1 a.2.1.2
    have hP := PB_fine h2 hO hG hV
    have tb := tm_bd hP (Xok_0 hP) o0 o1
    have m1 := mul_mono (t := (b 2).2 o 2) (by omega) r1.1 r1.2
    have m2 := mul_mono (t := (b 2).2 o 3) (by omega) r2.1 r2.2
    have ep : pPay (bSet b 1 (tRem (b 1) i)) o = (b 2).2 o 2 * pPer (bSet b 1 (tRem (b 1) i)) ((b 2).2 o 0) + (b 2).2 o 3 * pPer (bSet b 1 (tRem (b 1) i)) ((b 2).2 o 1) := rfl
    have ep0 : pPay b o = (b 2).2 o 2 * pPer b ((b 2).2 o 0) + (b 2).2 o 3 * pPer b ((b 2).2 o 1) := rfl
    have m3 := mul_mono (t := pTm b (pX0 b) o) (x := pPay (bSet b 1 (tRem (b 1) i)) o) (y := pPay b o) tb.1 (by omega) (by omega)
    have m4 := mul_mono (t := (b 2).2 o 5) (by omega) m3.1 m3.2
    rw [Int.mul_comm ((b 2).2 o 5), Int.mul_comm ((b 2).2 o 5)] at m4
    unfold okI at q1 q2 q3 q4 q5
    exact ⟨(show okI ((b 2).2 o 2 * pPer (bSet b 1 (tRem (b 1) i)) ((b 2).2 o 0)) from ⟨by omega, by omega⟩), (show okI ((b 2).2 o 3 * pPer (bSet b 1 (tRem (b 1) i)) ((b 2).2 o 1)) from ⟨by omega, by omega⟩), ⟨by omega, by omega⟩, (show okI (pTm b (pX0 b) o * pPay (bSet b 1 (tRem (b 1) i)) o) from ⟨by omega, by omega⟩), (show okI (pTm b (pX0 b) o * pPay (bSet b 1 (tRem (b 1) i)) o * (b 2).2 o 5) from ⟨by omega, by omega⟩)⟩
theorem Fine_unset {i : Int} (hf : Fine b) (hg : WfG b) (hO : WfO b) (h2 : 0 ≤ (b 2).1 ∧ (b 2).1 ≤ 6) (hi : 0 ≤ i ∧ i < (b 2).1) : Fine (bSet b 2 (tRem (b 2) i)) := by
  obtain ⟨hQ, hL, hG, hA, hV, hM, hN⟩ := hf
  have e1 : (bSet b 2 (tRem (b 2) i) 2).1 = (b 2).1 - 1 := rfl
  have e : ∀ o c, (bSet b 2 (tRem (b 2) i) 2).2 o c = (b 2).2 (sg i o) c := fun o c => rem_e
  refine Fine_mk (by rw [e1]; omega) hg (fun o o0 o1 => ?_) hQ hL hG hA (fun o o0 o1 => ?_)
  · rw [e1] at o1
    have a := sg_bd (t := (b 2).1) (i := i) o0 o1
    simp only [e]
    exact hO _ a.1 a.2
  · rw [e1] at o1
    have a := sg_bd (t := (b 2).1) (i := i) o0 o1
    have h := hV _ a.1 a.2
    unfold OffOk pPay pTm pSu at *
    simp only [e]
    exact h
end PURE2
