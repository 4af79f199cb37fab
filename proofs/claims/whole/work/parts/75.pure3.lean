/-! PURE: a plan followed, quantities scaled, floors. -/
def flT (T : Tb) (f n : Int) : Tb := (T.1, fun g c => if c = 5 ∧ 0 ≤ g ∧ g < n then f else T.2 g c)
def bFl (b : Bk) (f : Int) : Bk := bSet b 0 (flT (b 0) f 5)
def a_seen (b : Bk) (f r : Int) : Prop := Fine (bScale (bFl b f) ((b 4).2 r 0)) ∧ pMargin (bScale (bFl b f) ((b 4).2 r 0)) = (b 4).2 r 1
def fSn (b : Bk) (f : Int) (n : Nat) : Prop := ∀ r, 0 ≤ r → r < (n : Int) → a_seen b f r
noncomputable def ftIt (b : Bk) (n : Nat) : Int × Int := it (fun i s => cif (fSn b (9 - i) (b 4).1.toNat) (s.1 + 1, 9 - (i : Int)) s) (0, -5) n
section PURE3
variable {q r v t c n' g j k e s o u x y : Int} {b b' b2 kb : Bk} {T : Tb} {n : Nat}
theorem flT_s {f : Int} (h : 0 ≤ v) : flT T f (v + 1) = tPut (flT T f v) v 5 f := by
  unfold flT tPut
  congr 1
  funext g c
  show (if _ then _ else _) = (if _ then _ else (if _ then _ else _))
  by_cases h1 : g = v ∧ c = 5
  · rw [if_pos h1, if_pos ⟨h1.2, by omega, by omega⟩]
  · rw [if_neg h1]
    by_cases h2 : c = 5 ∧ 0 ≤ g ∧ g < v
    · rw [if_pos h2, if_pos ⟨h2.1, by omega, by omega⟩]
    · rw [if_neg h2, if_neg (by omega)]
theorem flT_0 {f : Int} : flT T f 0 = T := by
  unfold flT
  have : (fun g c => if c = 5 ∧ 0 ≤ g ∧ g < 0 then f else T.2 g c) = T.2 := by
    funext g c
    rw [if_neg (by omega)]
  rw [this]
theorem WfG_fl {f : Int} (hg : WfG b) (h0 : 0 ≤ f) (h1 : f ≤ 99) : WfG (bFl b f) := by
  intro g g0 g1
  have a := hg g g0 g1
  have e : ∀ c, (bFl b f 0).2 g c = if c = 5 ∧ 0 ≤ g ∧ g < 5 then f else (b 0).2 g c := fun c => rfl
  rw [e, e, e, e, e, e, if_neg (by omega), if_neg (by omega), if_neg (by omega), if_neg (by omega), if_neg (by omega), if_pos (by omega)]
  omega
theorem RLg_drop (h : RLg T) (h0 : 0 ≤ T.1) {c : Int} : RLg (tDrop T c) := by
  intro l l0 l1
  obtain ⟨r', r0, r1, e⟩ := (tDrop_row (c := c) h0).2 l l0 l1
  rw [e, e, e, e]
  exact h r' r0 r1
theorem scT_e {w l c : Int} : (scT T w T.1).2 l c = if c = 4 ∧ 0 ≤ l ∧ l < T.1 then td (T.2 l 4 * w) 100 else T.2 l c := rfl
theorem WfL_scale {w : Int} (hl : WfL b) (h0 : 0 ≤ (b 3).1) : WfL (bScale b w) := by
  refine RLg_drop (T := scT (b 3) w (b 3).1) ?_ h0
  intro l l0 l1
  have l1' : l < (b 3).1 := l1
  rw [scT_e, scT_e, scT_e, scT_e, if_neg (by omega), if_neg (by omega), if_neg (by omega), if_neg (by omega)]
  exact hl l l0 l1'
theorem WfQ_scale {w : Int} (h : OkS b w) (h0 : 0 ≤ (b 3).1) : WfQ (bScale b w) := by
  intro l l0 l1
  obtain ⟨r', r0, r1, e⟩ := (tDrop_row (T := scT (b 3) w (b 3).1) (c := 4) h0).2 l l0 l1
  have e' : (bScale b w 3).2 l 4 = (scT (b 3) w (b 3).1).2 r' 4 := e 4
  have r1' : r' < (b 3).1 := r1
  rw [e', scT_e, if_pos ⟨rfl, r0, r1'⟩]
  exact h r' r0 r1'
theorem tDropN_surv : ∀ (n : Nat) (T : Tb) (r : Int), (n : Int) ≤ T.1 → 0 ≤ r → r < T.1 → T.2 r c ≠ 0 → ∃ r', 0 ≤ r' ∧ r' < (tDropN n T c).1 ∧ (tDropN n T c).2 r' c = T.2 r c := by
  intro n
  induction n with
  | zero => intro T r _ h0 h1 _; exact ⟨r, h0, h1, rfl⟩
  | succ n ih =>
    intro T r hn h0 h1 hz
    rw [tDropN]
    by_cases h : T.2 n c = 0
    · rw [if_pos h]
      have e1 : (tRem T n).1 = T.1 - 1 := rfl
      have e2 : ∀ r, (tRem T n).2 r c = if r < (n : Int) then T.2 r c else T.2 (r + 1) c := fun r => rfl
      have hne : r ≠ n := fun h' => hz (by rw [h']; exact h)
      by_cases hr : r < (n : Int)
      · have e3 : (tRem T n).2 r c = T.2 r c := by rw [e2, if_pos hr]
        rw [← e3]
        exact ih (tRem T n) r (by omega) h0 (by omega) (by rw [e3]; exact hz)
      · have e3 : (tRem T n).2 (r - 1) c = T.2 r c := by rw [e2, if_neg (by omega), show r - 1 + 1 = r by omega]
        rw [← e3]
        exact ih (tRem T n) (r - 1) (by omega) (by omega) (by omega) (by rw [e3]; exact hz)
    · rw [if_neg h]
      exact ih T r (by omega) h0 h1 hz
theorem scale_OkS {w : Int} (h : WfQ (bScale b w)) (h0 : 0 ≤ (b 3).1) : OkS b w := by
  intro l l0 l1
  by_cases hz : td ((b 3).2 l 4 * w) 100 = 0
  · rw [hz]
    exact ⟨by omega, by omega⟩
  · have e := scT_e (T := b 3) (w := w) (l := l) (c := 4)
    rw [if_pos ⟨rfl, l0, l1⟩] at e
    have hs : (scT (b 3) w (b 3).1).1 = (b 3).1 := rfl
    obtain ⟨r', r0, r1, e2⟩ := tDropN_surv (c := 4) (b 3).1.toNat (scT (b 3) w (b 3).1) l (by rw [hs]; omega) l0 (by rw [hs]; exact l1) (by rw [e]; exact hz)
    have e3 : tDropN (b 3).1.toNat (scT (b 3) w (b 3).1) 4 = bScale b w 3 := rfl
    rw [e3] at r1 e2
    have := h r' r0 r1
    rw [e2, e] at this
    exact this
theorem scale_fl {w f : Int} : bScale (bFl b f) w = bFl (bScale b w) f := by
  funext t
  show bSet (bSet b 0 (flT (b 0) f 5)) 3 (tDrop (scT (b 3) w (b 3).1) 4) t = bSet (bSet b 3 (tDrop (scT (b 3) w (b 3).1) 4)) 0 (flT (b 0) f 5) t
  unfold bSet
  by_cases h0 : t = 0
  · subst h0; rfl
  · by_cases h3 : t = 3
    · subst h3; rfl
    · rw [if_neg h3, if_neg h0, if_neg h0, if_neg h3]
theorem LegOk_fl {f l : Int} : LegOk (bFl b f) l = LegOk b l := rfl
theorem GroundOk_fl {f : Int} : GroundOk (bFl b f) g = GroundOk b g := rfl
theorem OffOk_fl {f : Int} : OffOk (bFl b f) o = OffOk b o := rfl
theorem pShT_fl {f : Int} : pShT (bFl b f) g = pShT b g := rfl
theorem pScans_fl {f : Int} : pScansN (bFl b f) 5 = pScansN b 5 := rfl
theorem pChs_fl {f : Int} : pChsN (bFl b f) 5 = pChsN b 5 := rfl
theorem pTot_fl {f : Int} : pTot (bFl b f) j = pTot b j := rfl
theorem pWorst_fl {f : Int} : pWorstN (bFl b f) n = pWorstN b n := rfl
theorem pMost_fl {f : Int} : pMost (bFl b f) = pMost b := rfl
theorem pNet_fl {f : Int} : pNet (bFl b f) = pNet b := rfl
theorem fl_5 {f : Int} (g0 : 0 ≤ g) (g1 : g < 5) : (bFl b f 0).2 g 5 = f := if_pos ⟨rfl, g0, g1⟩
theorem pFl_fl {f : Int} : pFlN (bFl b f) 5 = pSF b f 5 := by
  have e : ∀ n : Nat, n ≤ 5 → pFlN (bFl b f) n = pSF b f n := by
    intro n
    induction n with
    | zero => intro _; rfl
    | succ n ih =>
      intro hn
      have e1 : pSF b f (n + 1) = pSF b f n + pShT b n * f := rfl
      rw [pFlN_s, ih (by omega), fl_5 (by omega) (by omega), pShT_fl, e1]
  exact e 5 (by omega)
theorem pSF_0 : pSF b 0 5 = 0 := by
  have e : pSF b 0 5 = 0 + pShT b 0 * 0 + pShT b 1 * 0 + pShT b 2 * 0 + pShT b 3 * 0 + pShT b 4 * 0 := rfl
  omega
theorem worst_nn : 0 ≤ pWorstN b n := by
  induction n with
  | zero => exact Int.le_refl _
  | succ n ih =>
    rw [pWorstN_s]
    omega
theorem sh_nn (hQ : WfQ b) (h0 : 0 ≤ (b 3).1) : 0 ≤ pShT b g := (pSh_bd (b := b) (g := g) (b 3).1.toNat (fun l l0 l1 => (hQ l l0 (by omega)).1)).1
theorem fine_fl {f : Int} (h3 : 0 ≤ (b 3).1) (f0 : 0 ≤ f) : Fine (bFl b f) ↔ Fine (bFl b 0) ∧ pSF b f 5 ≤ 2147483647 := by
  constructor
  · rintro ⟨hQ, hL, hG, ⟨p1, p2, p3, p4, p5, p6⟩, hV, hM, hN⟩
    rw [pFl_fl] at p4
    refine ⟨⟨hQ, hL, hG, ⟨fun g g0 g1 => ?_, p2, p3, ?_, p5, p6⟩, hV, hM, hN⟩, p4.2⟩
    · rw [fl_5 g0 g1]
      simp [okI]
    · rw [pFl_fl, pSF_0]
      simp [okI]
  · rintro ⟨⟨hQ, hL, hG, ⟨p1, p2, p3, p4, p5, p6⟩, hV, hM, hN⟩, hs⟩
    have sn : ∀ g, 0 ≤ pShT b g * f := fun g => Int.mul_nonneg (sh_nn (b := b) hQ h3) f0
    have e : pSF b f 5 = 0 + pShT b 0 * f + pShT b 1 * f + pShT b 2 * f + pShT b 3 * f + pShT b 4 * f := rfl
    have a0 := sn 0
    have a1 := sn 1
    have a2 := sn 2
    have a3 := sn 3
    have a4 := sn 4
    refine ⟨hQ, hL, hG, ⟨fun g g0 g1 => ?_, p2, p3, ?_, p5, p6⟩, hV, hM, hN⟩
    · rw [fl_5 g0 g1, pShT_fl]
      have hg : g = 0 ∨ g = 1 ∨ g = 2 ∨ g = 3 ∨ g = 4 := by omega
      rcases hg with rfl | rfl | rfl | rfl | rfl <;> exact ⟨by omega, by omega⟩
    · rw [pFl_fl]
      exact ⟨by omega, by omega⟩
theorem margin_fl {f : Int} (hQ : WfQ b) (h3 : 0 ≤ (b 3).1) (f0 : 0 ≤ f) : pMargin (bFl b f) = max (pMargin (bFl b 0)) (pSF b f 5) := by
  have hw := worst_nn (b := b) (n := (b 1).1.toNat)
  have sn : ∀ g, 0 ≤ pShT b g * f := fun g => Int.mul_nonneg (sh_nn hQ h3) f0
  have e : pSF b f 5 = 0 + pShT b 0 * f + pShT b 1 * f + pShT b 2 * f + pShT b 3 * f + pShT b 4 * f := rfl
  have a0 := sn 0
  have a1 := sn 1
  have a2 := sn 2
  have a3 := sn 3
  have a4 := sn 4
  unfold pMargin
  rw [pFl_fl, pFl_fl, pSF_0, pNet_fl, pNet_fl, pWorst_fl, pWorst_fl]
  have e1 : (bFl b f 1) = b 1 := rfl
  have e2 : (bFl b 0 1) = b 1 := rfl
  rw [e1, e2]
  omega
theorem pSF_fl {f f' : Int} : pSF (bFl b f) f' 5 = pSF b f' 5 := rfl
theorem seen_iff {f : Int} (h3 : 0 ≤ (b 3).1) (f0 : 0 ≤ f) (hm : 0 ≤ (b 4).2 r 1) : a_seen b f r ↔ OkS (bFl b 0) ((b 4).2 r 0) ∧ Fine (bScale (bFl b 0) ((b 4).2 r 0)) ∧ (if pSF (bScale (bFl b 0) ((b 4).2 r 0)) f 5 ≤ 2147483647 then max (pMargin (bScale (bFl b 0) ((b 4).2 r 0))) (pSF (bScale (bFl b 0) ((b 4).2 r 0)) f 5) else -9223372036854775808) = (b 4).2 r 1 := by
  unfold a_seen
  generalize (b 4).2 r 0 = w at *
  generalize (b 4).2 r 1 = mg at *
  have h3' : 0 ≤ (bScale b w 3).1 := (tDrop_row (T := scT (b 3) w (b 3).1) (c := 4) h3).1.1
  rw [scale_fl, scale_fl, pSF_fl, fine_fl h3' f0]
  constructor
  · rintro ⟨⟨h1, h2⟩, h4⟩
    have hQ : WfQ (bScale b w) := h1.1
    refine ⟨scale_OkS (b := bFl b 0) (by rw [scale_fl]; exact hQ) h3, h1, ?_⟩
    rw [if_pos h2, ← margin_fl hQ h3' f0]
    exact h4
  · rintro ⟨h1, h2, h4⟩
    have hQ : WfQ (bScale b w) := h2.1
    by_cases h5 : pSF (bScale b w) f 5 ≤ 2147483647
    · rw [if_pos h5] at h4
      exact ⟨⟨h2, h5⟩, by rw [margin_fl hQ h3' f0]; exact h4⟩
    · rw [if_neg h5] at h4
      omega
/-! the plan -/
def Mid (b : Bk) : Prop := WfG b ∧ WfM b ∧ WfL b ∧ WfQ b ∧ 0 ≤ (b 1).1 ∧ 0 ≤ (b 3).1
theorem Mid_mark3 (h : Mid b) : Mid (bMark b 3 4 v) := by
  obtain ⟨hg, hm, hl, hq, h1, h3⟩ := h
  unfold bMark
  split
  · refine ⟨hg, hm, RLg_put hl, fun l l0 l1 => ?_, h1, h3⟩
    have e : (bSet b 3 (tPut (b 3) v 4 0) 3).2 l 4 = if l = v ∧ (4 : Int) = 4 then 0 else (b 3).2 l 4 := rfl
    rw [e]
    split
    · omega
    · exact hq l l0 l1
  · exact ⟨hg, hm, hl, hq, h1, h3⟩
theorem Mid_mark1 (h : Mid b) : Mid (bMark b 1 2 v) := by
  obtain ⟨hg, hm, hl, hq, h1, h3⟩ := h
  unfold bMark
  split
  · refine ⟨hg, fun l l0 l1 => ?_, hl, hq, h1, h3⟩
    have e : ∀ c, (bSet b 1 (tPut (b 1) v 2 0) 1).2 l c = if l = v ∧ c = 2 then 0 else (b 1).2 l c := fun c => rfl
    have a := hm l l0 l1
    rw [e, e, e, if_neg (by omega), if_neg (by omega)]
    refine ⟨a.1, a.2.1, ?_⟩
    split
    · omega
    · exact a.2.2
  · exact ⟨hg, hm, hl, hq, h1, h3⟩
theorem Mid_step {b0 : Bk} (h : Mid b) : Mid (fStep b0 r b) := by
  unfold fStep
  split
  · exact ⟨WfG_shift h.1 (Or.inl rfl), h.2⟩
  · split
    · exact ⟨WfG_shift h.1 (Or.inr rfl), h.2⟩
    · split
      · exact Mid_mark3 h
      · exact Mid_mark1 h
theorem Mid_it {b0 : Bk} (h : Mid b0) : ∀ n : Nat, Mid (it (fStep b0) b0 n) := by
  intro n
  induction n with
  | zero => exact h
  | succ n ih => exact Mid_step ih
theorem Mid_drop (h : Mid b) : Mid (bDrop b) := by
  obtain ⟨hg, hm, hl, hq, h1, h3⟩ := h
  have d3 := tDrop_row (T := b 3) (c := 4) h3
  have d1 := tDrop_row (T := b 1) (c := 2) h1
  refine ⟨hg, fun l l0 l1 => ?_, RLg_drop hl h3, fun l l0 l1 => ?_, d1.1.1, d3.1.1⟩
  · obtain ⟨r', r0, r1, e⟩ := d1.2 l l0 l1
    have e' : ∀ c, (bDrop b 1).2 l c = (b 1).2 r' c := e
    rw [e', e', e']
    exact hm r' r0 r1
  · obtain ⟨r', r0, r1, e⟩ := d3.2 l l0 l1
    have e' : (bDrop b 3).2 l 4 = (b 3).2 r' 4 := e 4
    rw [e']
    exact hq r' r0 r1
theorem follow_2 : bFollow b 2 = b 2 := by
  have key : ∀ n : Nat, (it (fStep b) b n) 2 = b 2 := by
    intro n
    induction n with
    | zero => rfl
    | succ n ih =>
      show fStep b n (it (fStep b) b n) 2 = b 2
      unfold fStep
      split
      · exact ih
      · split
        · exact ih
        · split
          · rw [bMark_ne (by omega)]; exact ih
          · rw [bMark_ne (by omega)]; exact ih
  exact key _
theorem Mid_follow (h : Mid b) : Mid (bFollow b) := Mid_drop (Mid_it h _)
/-! the best order -/
theorem bst_in (b : Bk) : ∀ (ls : List (List Int)) (acc : Int × List Int), bst b acc ls = acc ∨ (bst b acc ls).2 ∈ ls := by
  intro ls
  induction ls with
  | nil => intro acc; exact Or.inl rfl
  | cons l ls ih =>
    intro acc
    have e : bst b acc (l :: ls) = bst b (bs1 b acc l) ls := rfl
    rw [e]
    rcases ih (bs1 b acc l) with h | h
    · rw [h]
      unfold bs1
      split
      · exact Or.inr (by simp)
      · exact Or.inl rfl
    · exact Or.inr (by simp [h])
theorem pBst_ok (hP : PB b) : PreN (b 2).1.toNat (pBst b).2 ∧ (pBst b).2.length = (b 2).1.toNat := by
  have h0 := pMost_nn hP
  rcases bst_in b (cmpl (b 2).1.toNat (b 2).1.toNat []) (-1, []) with h | h
  · have e : (pBst b).1 = -1 := by
      show (bst b (-1, []) (cmpl (b 2).1.toNat (b 2).1.toNat [])).1 = -1
      rw [h]
    unfold pMost at h0
    omega
  · exact cmpl_PreN (b 2).1.toNat [] (PreN_0 _) (by simp) _ h
theorem perm_mem {l : List Int} (h : PreN n l) (hl : l.length = n) (h0 : 0 ≤ o) (h1 : o < (n : Int)) : o ∈ l := by
  by_cases hm : o ∈ l
  · exact hm
  · have h2 := frn_mem h0 h1 hm
    have h3 := h.2.2
    have : (frn n l).length = 0 := by omega
    rw [List.length_eq_zero_iff] at this
    rw [this] at h2
    simp at h2
theorem ix_get {l : List Int} (h : o ∈ l) : l.idxOf o < l.length ∧ l.getD (l.idxOf o) 0 = o := by
  have := List.idxOf_lt_length_iff.mpr h
  refine ⟨this, ?_⟩
  simp [List.getD, this]
end PURE3
