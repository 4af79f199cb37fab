/-! RULES of the plain machine, an instruction each, in the form in which the walks use them. -/
section RULES2
variable {d pc : Nat} {Y : gY} {ls st : List gV} {w : gW} {m : gM} {K : Option gV → gW → gM → Prop}
theorem gCd_eq (a b : Int) : (gCd .eq a b = true) = (a = b) := by simp [gCd]
theorem gCd_ne (a b : Int) : (gCd .ne a b = true) = (a ≠ b) := by simp [gCd]
theorem gCd_lt (a b : Int) : (gCd .lt a b = true) = (a < b) := by simp [gCd]
theorem gCd_ge (a b : Int) : (gCd .ge a b = true) = (b ≤ a) := by simp [gCd]
theorem gCd_gt (a b : Int) : (gCd .gt a b = true) = (b < a) := by simp [gCd]
theorem gCd_le (a b : Int) : (gCd .le a b = true) = (a ≤ b) := by simp [gCd]
theorem ite_eq_of {p q : Prop} [Decidable p] [Decidable q] (h : p = q) (x y : Prop) : (if p then x else y) = (if q then x else y) := by
  subst h
  by_cases hp : p <;> simp [hp]
theorem rs_if {c : Jvm.ClassFile.Cond} {off : Int} {tgt : Nat} {a : Int} {q : Prop} [Decidable q] (hq : (gCd c a 0 = true) = q) (hd : decode (yC Y) pc = .ok (.ifCond c off, 3)) (ht : (pc : Int) + off = (tgt : Int)) : R d Y pc ls ((0, a) :: st) w m K = if q then R d Y tgt ls st w m K else R d Y (pc + 3) ls st w m K := by
  have e : ((pc : Int) + off).toNat = tgt := by rw [ht]; rfl
  have h0 : 0 ≤ (pc : Int) + off := by omega
  rw [R_br (x := (tgt, ls, st, w, m)) (y := (pc + 3, ls, st, w, m)) (c := gCd c a 0 = true) hd (by simp [gIns, gLk, gIns0, xIf, e, h0])]
  exact ite_eq_of hq _ _
theorem rs_ic {c : Jvm.ClassFile.Cond} {off : Int} {tgt : Nat} {a b : Int} {q : Prop} [Decidable q] (hq : (gCd c a b = true) = q) (hd : decode (yC Y) pc = .ok (.if_icmp c off, 3)) (ht : (pc : Int) + off = (tgt : Int)) : R d Y pc ls ((0, b) :: (0, a) :: st) w m K = if q then R d Y tgt ls st w m K else R d Y (pc + 3) ls st w m K := by
  have e : ((pc : Int) + off).toNat = tgt := by rw [ht]; rfl
  have h0 : 0 ≤ (pc : Int) + off := by omega
  rw [R_br (x := (tgt, ls, st, w, m)) (y := (pc + 3, ls, st, w, m)) (c := gCd c a b = true) hd (by simp [gIns, gLk, gIns0, xIc, e, h0])]
  exact ite_eq_of hq _ _
theorem rs_goto {off : Int} {tgt : Nat} (hd : decode (yC Y) pc = .ok (.goto off, 3)) (ht : (pc : Int) + off = (tgt : Int)) : R d Y pc ls st w m K = R d Y tgt ls st w m K := by
  have e : ((pc : Int) + off).toNat = tgt := by rw [ht]; rfl
  have h0 : 0 ≤ (pc : Int) + off := by omega
  exact R_go (x := (tgt, ls, st, w, m)) hd (by simp [gIns, gLk, gIns0, xJmp, e, h0])
def gSw (f : Nat → Prop) (dflt : Nat) : List (Int × Nat) → Int → Prop
  | [], _ => f dflt
  | (k, t) :: r, a => if a = k then f t else gSw f dflt r a
theorem gSw_of {f : Nat → Prop} {dflt : Nat} : ∀ (l : List (Int × Nat)) (a : Int), (∀ t, (∃ k, (k, t) ∈ l) → True) → ∀ x, ((∀ k t, (k, t) ∈ l → a = k → False) → x = f dflt) → (∀ (p : List (Int × Nat)) (k : Int) (t : Nat) (r : List (Int × Nat)), l = p ++ (k, t) :: r → a = k → (∀ k' t', (k', t') ∈ p → a ≠ k') → x = f t) → x = gSw f dflt l a := by
  intro l
  induction l with
  | nil =>
    intro a _ x h1 _
    exact h1 (fun k t h => by simp at h)
  | cons q l ih =>
    intro a _ x h1 h2
    obtain ⟨k, t⟩ := q
    rw [gSw]
    by_cases e : a = k
    · rw [if_pos e]
      exact h2 [] k t l rfl e (fun _ _ h => by simp at h)
    · rw [if_neg e]
      refine ih a (fun _ _ => trivial) x (fun h => h1 (fun k' t' hm he => ?_)) (fun p k' t' r hl he hn => h2 ((k, t) :: p) k' t' r (by rw [hl]; rfl) he (fun k2 t2 hm => ?_))
      · rcases List.mem_cons.mp hm with hm | hm
        · cases hm; exact e he
        · exact h k' t' hm he
      · rcases List.mem_cons.mp hm with hm | hm
        · cases hm; exact e
        · exact hn k2 t2 hm
def gOff (pc : Nat) : Int → List Int → List (Int × Nat)
  | _, [] => []
  | k, o :: r => (k, ((pc : Int) + o).toNat) :: gOff pc (k + 1) r
theorem rs_ts {dflt lo hi : Int} {offs : Array Int} {len dt : Nat} {a : Int} {l : List (Int × Nat)} (hd : decode (yC Y) pc = .ok (.tableswitch dflt lo hi offs, len)) (hl : gOff pc lo offs.toList = l) (h0 : offs.toList.all (fun o => decide (0 ≤ (pc : Int) + o)) = true) (hn : (offs.size : Int) = hi - lo + 1) (ht : (pc : Int) + dflt = (dt : Int)) : R d Y pc ls ((0, a) :: st) w m K = gSw (fun t => R d Y t ls st w m K) dt l a := by
  have ed : ((pc : Int) + dflt).toNat = dt := by rw [ht]; rfl
  have hd0 : 0 ≤ (pc : Int) + dflt := by omega
  have key : ∀ (os : List Int) (k : Int), (a < k ∨ k + os.length ≤ a → gSw (fun t => R d Y t ls st w m K) dt (gOff pc k os) a = R d Y dt ls st w m K) ∧ (∀ (off : Int), k ≤ a → os[(a - k).toNat]? = some off → gSw (fun t => R d Y t ls st w m K) dt (gOff pc k os) a = R d Y ((pc : Int) + off).toNat ls st w m K) := by
    intro os
    induction os with
    | nil => intro k; exact ⟨fun _ => rfl, fun off _ h => by simp at h⟩
    | cons o os ih =>
      intro k
      refine ⟨fun h => ?_, fun off hk h => ?_⟩
      · rw [gOff, gSw, if_neg (by simp at h; omega)]
        exact (ih (k + 1)).1 (by simp at h; omega)
      · rw [gOff, gSw]
        by_cases e : a = k
        · rw [if_pos e]
          have : (a - k).toNat = 0 := by omega
          rw [this] at h
          simp at h
          rw [h]
        · rw [if_neg e]
          refine (ih (k + 1)).2 off (by omega) ?_
          have : (a - k).toNat = (a - (k + 1)).toNat + 1 := by omega
          rw [this] at h
          simpa using h
  subst hl
  have hsz : offs.toList.length = offs.size := by simp
  by_cases h : lo ≤ a ∧ a ≤ hi
  · have hlt : (a - lo).toNat < offs.size := by omega
    have hs : offs[(a - lo).toNat]? = some offs[(a - lo).toNat] := by simp [hlt]
    have hs2 : offs.toList[(a - lo).toNat]? = some offs[(a - lo).toNat] := by simp [hlt]
    have h1 : 0 ≤ (pc : Int) + offs[(a - lo).toNat] := by
      have := List.all_eq_true.mp h0 _ (List.mem_of_getElem? hs2)
      simpa using this
    rw [(key offs.toList lo).2 _ h.1 hs2]
    exact R_go (x := (((pc : Int) + offs[(a - lo).toNat]).toNat, ls, st, w, m)) hd (by simp only [gIns, gLk, gIns0, beq_self_eq_true, if_true, xTs, if_true]; rw [if_pos h, hs]; simp [xJmp, h1])
  · rw [(key offs.toList lo).1 (by omega)]
    exact R_go (x := (dt, ls, st, w, m)) hd (by simp only [gIns, gLk, gIns0, beq_self_eq_true, if_true, xTs, if_true]; rw [if_neg h]; simp [xJmp, ed, hd0])
def gLkl (pc : Nat) : List (Int × Int) → List (Int × Nat)
  | [] => []
  | (k, o) :: r => (k, ((pc : Int) + o).toNat) :: gLkl pc r
theorem rs_lk {dflt : Int} {ps : Array (Int × Int)} {len dt : Nat} {a : Int} {l : List (Int × Nat)} (hd : decode (yC Y) pc = .ok (.lookupswitch dflt ps, len)) (hl : gLkl pc ps.toList = l) (h0 : ps.toList.all (fun o => decide (0 ≤ (pc : Int) + o.2)) = true) (hp : (ps.toList.zip (ps.toList.drop 1)).all (fun (a, next) => a.1 < next.1) = true) (ht : (pc : Int) + dflt = (dt : Int)) : R d Y pc ls ((0, a) :: st) w m K = gSw (fun t => R d Y t ls st w m K) dt l a := by
  have ed : ((pc : Int) + dflt).toNat = dt := by rw [ht]; rfl
  have hd0 : 0 ≤ (pc : Int) + dflt := by omega
  have key : ∀ os : List (Int × Int), os.all (fun o => decide (0 ≤ (pc : Int) + o.2)) = true → 0 ≤ (pc : Int) + Op.lookupswitch.offset os dflt a ∧ gSw (fun t => R d Y t ls st w m K) dt (gLkl pc os) a = R d Y ((pc : Int) + Op.lookupswitch.offset os dflt a).toNat ls st w m K := by
    intro os
    induction os with
    | nil => intro _; exact ⟨by simpa [Op.lookupswitch.offset] using hd0, by simp [gLkl, gSw, Op.lookupswitch.offset, ed]⟩
    | cons o os ih =>
      obtain ⟨k, o⟩ := o
      intro h
      simp only [List.all_cons, Bool.and_eq_true, decide_eq_true_eq] at h
      obtain ⟨i1, i2⟩ := ih h.2
      rw [gLkl, gSw]
      by_cases e : a = k
      · subst e
        simp [Op.lookupswitch.offset, h.1]
      · have e2 : ¬ k = a := fun q => e q.symm
        simp only [Op.lookupswitch.offset]
        simp [e, e2, i1, i2]
  subst hl
  obtain ⟨k1, k2⟩ := key ps.toList h0
  rw [k2]
  exact R_go (x := (((pc : Int) + Op.lookupswitch.offset ps.toList dflt a).toNat, ls, st, w, m)) hd (by show (if (0 : Nat) = 0 ∧ _ then _ else _) = _; rw [if_pos ⟨rfl, hp⟩]; simp [xJmp, k1])
theorem rs_iald {a i : Int} (hd : decode (yC Y) pc = .ok (.iaload, 1)) : R d Y pc ls ((0, i) :: (2, a) :: st) w m K = (((wS w a).1 = 100 ∧ 0 ≤ i ∧ i < ((wS w a).2 : Int)) ∧ R d Y (pc + 1) ls ((0, m a i) :: st) w m K) :=
  R_if (x := (pc + 1, ls, (0, m a i) :: st, w, m)) hd (by simp [gIns, gLk, gIns0, xAl]) rfl rfl
theorem rs_lald {a i : Int} (hd : decode (yC Y) pc = .ok (.laload, 1)) : R d Y pc ls ((0, i) :: (2, a) :: st) w m K = (((wS w a).1 = 101 ∧ 0 ≤ i ∧ i < ((wS w a).2 : Int)) ∧ R d Y (pc + 1) ls ((1, m a i) :: st) w m K) :=
  R_if (x := (pc + 1, ls, (1, m a i) :: st, w, m)) hd (by simp [gIns, gLk, gIns0, xAl]) rfl rfl
theorem rs_bald {a i : Int} (hd : decode (yC Y) pc = .ok (.baload, 1)) : R d Y pc ls ((0, i) :: (2, a) :: st) w m K = ((((wS w a).1 = 102 ∨ (wS w a).1 = 110) ∧ 0 ≤ i ∧ i < ((wS w a).2 : Int)) ∧ R d Y (pc + 1) ls ((0, m a i) :: st) w m K) :=
  R_if (x := (pc + 1, ls, (0, m a i) :: st, w, m)) hd (by simp [gIns, gLk, gIns0, xBl]) rfl rfl
theorem rs_aald {a i : Int} (hd : decode (yC Y) pc = .ok (.aaload, 1)) : R d Y pc ls ((0, i) :: (2, a) :: st) w m K = ((((wS w a).1 = 103 ∨ (wS w a).1 = 104) ∧ 0 ≤ i ∧ i < ((wS w a).2 : Int)) ∧ R d Y (pc + 1) ls ((2, wP w a i) :: st) w m K) :=
  R_if (x := (pc + 1, ls, (2, wP w a i) :: st, w, m)) hd (by simp [gIns, gLk, gIns0, xAa]) rfl rfl
theorem rs_iast {a i v : Int} (hd : decode (yC Y) pc = .ok (.iastore, 1)) : R d Y pc ls ((0, v) :: (0, i) :: (2, a) :: st) w m K = ((0 ≤ a ∧ (wS w a).1 = 100 ∧ 0 ≤ i ∧ i < ((wS w a).2 : Int)) ∧ R d Y (pc + 1) ls st w (gU m a i v) K) :=
  R_if (x := (pc + 1, ls, st, w, gU m a i v)) hd (by simp [gIns, gLk, gIns0, xAs]) rfl rfl
theorem rs_last {a i v : Int} (hd : decode (yC Y) pc = .ok (.lastore, 1)) : R d Y pc ls ((1, v) :: (0, i) :: (2, a) :: st) w m K = ((0 ≤ a ∧ (wS w a).1 = 101 ∧ 0 ≤ i ∧ i < ((wS w a).2 : Int)) ∧ R d Y (pc + 1) ls st w (gU m a i v) K) :=
  R_if (x := (pc + 1, ls, st, w, gU m a i v)) hd (by simp [gIns, gLk, gIns0, xAs]) rfl rfl
theorem rs_bast {a i v : Int} (hd : decode (yC Y) pc = .ok (.bastore, 1)) : R d Y pc ls ((0, v) :: (0, i) :: (2, a) :: st) w m K = ((0 ≤ a ∧ (wS w a).1 = 102 ∧ 0 ≤ i ∧ i < ((wS w a).2 : Int) ∧ (v = 0 ∨ v = 1)) ∧ R d Y (pc + 1) ls st w (gU m a i v) K) :=
  R_if (x := (pc + 1, ls, st, w, gU m a i v)) hd (by simp [gIns, gLk, gIns0, xAs]) rfl rfl
theorem rs_len {a : Int} (hd : decode (yC Y) pc = .ok (.arraylength, 1)) : R d Y pc ls ((2, a) :: st) w m K = ((100 ≤ (wS w a).1 ∧ (wS w a).1 ≤ 110) ∧ R d Y (pc + 1) ls ((0, ((wS w a).2 : Int)) :: st) w m K) :=
  R_if (x := (pc + 1, ls, (0, ((wS w a).2 : Int)) :: st, w, m)) hd (by simp [gIns, gLk, gIns0, xLen]) rfl rfl
theorem rs_getr {idx ci j : Nat} {a : Int} (hd : decode (yC Y) pc = .ok (.getfield idx, 3)) (hf : tF (yO Y) idx = some (ci, j)) (ht : gTg (gFt ci j) = 2) : R d Y pc ls ((2, a) :: st) w m K = ((wS w a).1 = ci ∧ R d Y (pc + 3) ls ((2, wP w a j) :: st) w m K) :=
  R_if (x := (pc + 3, ls, (2, wP w a j) :: st, w, m)) hd (by simp [gIns, gLk, gIns0, xGf, hf, ht]) rfl rfl
theorem rs_getd {idx ci j t : Nat} {a : Int} (hd : decode (yC Y) pc = .ok (.getfield idx, 3)) (hf : tF (yO Y) idx = some (ci, j)) (ht : gTg (gFt ci j) = t) (h2 : t ≠ 2) : R d Y pc ls ((2, a) :: st) w m K = ((wS w a).1 = ci ∧ R d Y (pc + 3) ls ((t, m a j) :: st) w m K) :=
  R_if (x := (pc + 3, ls, (t, m a j) :: st, w, m)) hd (by simp [gIns, gLk, gIns0, xGf, hf, ht, h2]) rfl rfl
theorem rs_gets0 {idx : Nat} {a : Int} (hd : decode (yC Y) pc = .ok (.getfield idx, 3)) (hf : tF (yO Y) idx = none) (hs : tSf (yO Y) idx = some 0) : R d Y pc ls ((2, a) :: st) w m K = ((wS w a).1 = 120 ∧ R d Y (pc + 3) ls ((2, wP w a 0) :: st) w m K) :=
  R_if (x := (pc + 3, ls, (2, wP w a 0) :: st, w, m)) hd (by simp [gIns, gLk, gIns0, xGf, hf, hs]) rfl rfl
theorem rs_gets1 {idx : Nat} {a : Int} (hd : decode (yC Y) pc = .ok (.getfield idx, 3)) (hf : tF (yO Y) idx = none) (hs : tSf (yO Y) idx = some 1) : R d Y pc ls ((2, a) :: st) w m K = ((wS w a).1 = 120 ∧ R d Y (pc + 3) ls ((0, m a 1) :: st) w m K) :=
  R_if (x := (pc + 3, ls, (0, m a 1) :: st, w, m)) hd (by simp [gIns, gLk, gIns0, xGf, hf, hs]) rfl rfl
theorem rs_putr {idx ci j : Nat} {a v : Int} (hd : decode (yC Y) pc = .ok (.putfield idx, 3)) (hf : tF (yO Y) idx = some (ci, j)) (ht : gTg (gFt ci j) = 2) (hn : gFin ci j = false ∨ (yH Y = true ∧ ci = yO Y)) : R d Y pc ls ((2, v) :: (2, a) :: st) w m K = ((0 ≤ a ∧ (wS w a).1 = ci ∧ -1 ≤ v) ∧ R d Y (pc + 3) ls st (wPut w a j v) m K) := by
  refine R_if (x := (pc + 3, ls, st, wPut w a j v, m)) hd ?_ rfl rfl
  by_cases h1 : 0 ≤ a <;> by_cases h2 : (wS w a).1 = ci <;> by_cases h3 : -1 ≤ v <;> simp [gIns, gLk, gIns0, xPf, hf, ht, hn, h1, h2, h3]
theorem rs_putd {idx ci j t : Nat} {a v : Int} (hd : decode (yC Y) pc = .ok (.putfield idx, 3)) (hf : tF (yO Y) idx = some (ci, j)) (ht : gTg (gFt ci j) = t) (h2 : t ≠ 2) (hb : gFt ci j ≠ .boolean) (hn : gFin ci j = false ∨ (yH Y = true ∧ ci = yO Y)) : R d Y pc ls ((t, v) :: (2, a) :: st) w m K = ((0 ≤ a ∧ (wS w a).1 = ci) ∧ R d Y (pc + 3) ls st w (gU m a j v) K) := by
  refine R_if (x := (pc + 3, ls, st, w, gU m a j v)) hd ?_ rfl rfl
  by_cases h1 : 0 ≤ a <;> by_cases h3 : (wS w a).1 = ci <;> simp [gIns, gLk, gIns0, xPf, hf, ht, hn, h1, h2, h3, hb]
theorem rs_putz {idx ci j : Nat} {a v : Int} (hd : decode (yC Y) pc = .ok (.putfield idx, 3)) (hf : tF (yO Y) idx = some (ci, j)) (hb : gFt ci j = .boolean) (hn : gFin ci j = false ∨ (yH Y = true ∧ ci = yO Y)) : R d Y pc ls ((0, v) :: (2, a) :: st) w m K = ((0 ≤ a ∧ (wS w a).1 = ci ∧ (v = 0 ∨ v = 1)) ∧ R d Y (pc + 3) ls st w (gU m a j v) K) := by
  refine R_if (x := (pc + 3, ls, st, w, gU m a j v)) hd ?_ rfl rfl
  have ht : gTg .boolean = 0 := rfl
  by_cases h1 : 0 ≤ a <;> by_cases h2 : (wS w a).1 = ci <;> by_cases h3 : v = 0 ∨ v = 1 <;> simp [gIns, gLk, gIns0, xPf, hf, ht, hb, hn, h1, h2, h3]
theorem rs_idiv {a b : Int} (hd : decode (yC Y) pc = .ok (.idiv, 1)) : R d Y pc ls ((0, b) :: (0, a) :: st) w m K = (b ≠ 0 ∧ R d Y (pc + 1) ls ((0, idiv a b) :: st) w m K) :=
  R_if (x := (pc + 1, ls, (0, idiv a b) :: st, w, m)) hd (by simp [gIns, gLk, gIns0, xDv]) rfl rfl
theorem rs_irem {a b : Int} (hd : decode (yC Y) pc = .ok (.irem, 1)) : R d Y pc ls ((0, b) :: (0, a) :: st) w m K = (b ≠ 0 ∧ R d Y (pc + 1) ls ((0, irem a b) :: st) w m K) :=
  R_if (x := (pc + 1, ls, (0, irem a b) :: st, w, m)) hd (by simp [gIns, gLk, gIns0, xDv]) rfl rfl
theorem rs_ldiv {a b : Int} (hd : decode (yC Y) pc = .ok (.ldiv, 1)) : R d Y pc ls ((1, b) :: (1, a) :: st) w m K = (b ≠ 0 ∧ R d Y (pc + 1) ls ((1, ldiv a b) :: st) w m K) :=
  R_if (x := (pc + 1, ls, (1, ldiv a b) :: st, w, m)) hd (by simp [gIns, gLk, gIns0, xDv]) rfl rfl
theorem rs_lrem {a b : Int} (hd : decode (yC Y) pc = .ok (.lrem, 1)) : R d Y pc ls ((1, b) :: (1, a) :: st) w m K = (b ≠ 0 ∧ R d Y (pc + 1) ls ((1, lrem a b) :: st) w m K) :=
  R_if (x := (pc + 1, ls, (1, lrem a b) :: st, w, m)) hd (by simp [gIns, gLk, gIns0, xDv]) rfl rfl
theorem rs_new {idx ci : Nat} (hd : decode (yC Y) pc = .ok (.new idx, 3)) (hf : tN (yO Y) idx = some ci) : R d Y pc ls st w m K = R d Y (pc + 3) ls ((2, (w.1 : Int)) :: st) (wNew w ci (gNf ci)) (mNew w m) K :=
  R_go (x := (pc + 3, ls, (2, (w.1 : Int)) :: st, wNew w ci (gNf ci), mNew w m)) hd (by simp [gIns, gLk, gIns0, xNew, hf])
theorem rs_nai {n : Int} (hd : decode (yC Y) pc = .ok (.newarray .int, 2)) : R d Y pc ls ((0, n) :: st) w m K = ((0 ≤ n ∧ n ≤ 100000) ∧ R d Y (pc + 2) ls ((2, (w.1 : Int)) :: st) (wNew w 100 n.toNat) (mNew w m) K) :=
  R_if (x := (pc + 2, ls, (2, (w.1 : Int)) :: st, wNew w 100 n.toNat, mNew w m)) hd (by simp [gIns, gLk, gIns0, xNa]) rfl rfl
theorem rs_nal {n : Int} (hd : decode (yC Y) pc = .ok (.newarray .long, 2)) : R d Y pc ls ((0, n) :: st) w m K = ((0 ≤ n ∧ n ≤ 100000) ∧ R d Y (pc + 2) ls ((2, (w.1 : Int)) :: st) (wNew w 101 n.toNat) (mNew w m) K) :=
  R_if (x := (pc + 2, ls, (2, (w.1 : Int)) :: st, wNew w 101 n.toNat, mNew w m)) hd (by simp [gIns, gLk, gIns0, xNa]) rfl rfl
theorem rs_naz {n : Int} (hd : decode (yC Y) pc = .ok (.newarray .boolean, 2)) : R d Y pc ls ((0, n) :: st) w m K = ((0 ≤ n ∧ n ≤ 100000) ∧ R d Y (pc + 2) ls ((2, (w.1 : Int)) :: st) (wNew w 102 n.toNat) (mNew w m) K) :=
  R_if (x := (pc + 2, ls, (2, (w.1 : Int)) :: st, wNew w 102 n.toNat, mNew w m)) hd (by simp [gIns, gLk, gIns0, xNa]) rfl rfl
theorem rs_ma {idx kd : Nat} {n k : Int} (hd : decode (yC Y) pc = .ok (.multianewarray idx 2, 4)) (hf : tA (yO Y) idx = some kd) : R d Y pc ls ((0, k) :: (0, n) :: st) w m K = ((0 ≤ n ∧ n ≤ 100000 ∧ 0 ≤ k ∧ k ≤ 100000) ∧ R d Y (pc + 4) ls ((2, (w.1 : Int)) :: st) (wGrid w kd n.toNat k.toNat) (mGrid w m n.toNat) K) :=
  R_if (x := (pc + 4, ls, (2, (w.1 : Int)) :: st, wGrid w kd n.toNat k.toNat, mGrid w m n.toNat)) hd (by simp [gIns, gLk, gIns0, xMa, hf]) rfl rfl
theorem rs_cp {idx : Nat} {n j b i a : Int} (hd : decode (yC Y) pc = .ok (.invokestatic idx, 3)) (hf : tI (yO Y) idx = some 17) (hm : tM (yO Y) idx = none) (hc : gCs st ≤ 8) : R d Y pc ls ((0, n) :: (0, j) :: (2, b) :: (0, i) :: (2, a) :: st) w m K = ((0 ≤ a ∧ 0 ≤ b ∧ ((wS w a).1 = 100 ∨ (wS w a).1 = 101) ∧ (wS w b).1 = (wS w a).1 ∧ 0 ≤ i ∧ 0 ≤ j ∧ 0 ≤ n ∧ i + n ≤ ((wS w a).2 : Int) ∧ j + n ≤ ((wS w b).2 : Int)) ∧ R d Y (pc + 3) ls st w (gCp m a i b j n) K) :=
  R_if (x := (pc + 3, ls, st, w, gCp m a i b j n)) hd (by simp [gIns, gLk, gIns0, xSt9, hf, xCp, hc]) rfl (by simp [gCal, hm])
theorem rs_m2 {idx k t : Nat} {f : Int → Int → Int} {a b : Int} (hd : decode (yC Y) pc = .ok (.invokestatic idx, 3)) (hf : tI (yO Y) idx = some k) (hk : (k = 11 ∧ t = 0 ∧ f = imax) ∨ (k = 12 ∧ t = 0 ∧ f = imin) ∨ (k = 14 ∧ t = 1 ∧ f = imax) ∨ (k = 15 ∧ t = 1 ∧ f = imin)) (hc : gCs st ≤ 8) : R d Y pc ls ((t, b) :: (t, a) :: st) w m K = R d Y (pc + 3) ls ((t, f a b) :: st) w m K := by
  refine R_go (x := (pc + 3, ls, (t, f a b) :: st, w, m)) hd ?_
  rcases hk with ⟨rfl, rfl, rfl⟩ | ⟨rfl, rfl, rfl⟩ | ⟨rfl, rfl, rfl⟩ | ⟨rfl, rfl, rfl⟩ <;> simp [gIns, gLk, gIns0, xSt9, hf, xB8, hc]
theorem rs_m1 {idx k t u : Nat} {f : Int → Int} {a : Int} (hd : decode (yC Y) pc = .ok (.invokestatic idx, 3)) (hf : tI (yO Y) idx = some k) (hk : (k = 13 ∧ t = 0 ∧ u = 0 ∧ f = iabs) ∨ (k = 16 ∧ t = 1 ∧ u = 1 ∧ f = labs) ∨ (k = 18 ∧ t = 1 ∧ u = 0 ∧ f = gSgn)) (hc : gCs st ≤ 8) : R d Y pc ls ((t, a) :: st) w m K = R d Y (pc + 3) ls ((u, f a) :: st) w m K := by
  refine R_go (x := (pc + 3, ls, (u, f a) :: st, w, m)) hd ?_
  rcases hk with ⟨rfl, rfl, rfl, rfl⟩ | ⟨rfl, rfl, rfl, rfl⟩ | ⟨rfl, rfl, rfl, rfl⟩ <;> simp [gIns, gLk, gIns0, xSt9, hf, xU8, hc]
theorem rs_ob {idx : Nat} {a : Int} (hd : decode (yC Y) pc = .ok (.invokespecial idx, 3)) (hf : tI (yO Y) idx = some 19) (hm : tM (yO Y) idx = none) (hc : gCs st ≤ 8) : R d Y pc ls ((2, a) :: st) w m K = (0 ≤ a ∧ R d Y (pc + 3) ls st w m K) :=
  R_if (x := (pc + 3, ls, st, w, m)) hd (by simp [gIns, gLk, gIns0, xOb, hf, hc]) rfl (by simp [gCal, hm])
/-- calls: As the arguments in their order -/
theorem rs_c0 {idx n : Nat} {Z : gY} {As sa : List gV} (hd : decode (yC Y) pc = .ok (.invokestatic idx, 3)) (hi : tI (yO Y) idx = none) (hm : tM (yO Y) idx = some (0, n, Z)) (hl : sa.length = n) (hs : sa.reverse = As) (hc : gCs st ≤ 16) (hn : (gSp As).length ≤ yL Z) : R d Y pc ls (sa ++ st) w m K = C d Z As w m (fun r w' m' => R d Y (pc + 3) ls (r.toList ++ st) w' m' K) := by
  have e1 : (sa ++ st).take n = sa := by rw [← hl]; simp
  have e2 : (sa ++ st).drop n = st := by rw [← hl]; simp
  refine R_call (c := (Z, As, st)) hd (by simp [gIns, gLk, gIns0, xSt9, hi]) rfl ?_
  have h4 : n ≤ (sa ++ st).length := by simp [hl]
  simp [gCal, hm, e1, e2, hs, hc, hn]
  omega
theorem rs_c1 {idx n ci : Nat} {Z : gY} {a : Int} {As sa : List gV} (hd : decode (yC Y) pc = .ok (.invokevirtual idx, 3)) (hm : tM (yO Y) idx = some (1, n, Z)) (hl : sa.length = n) (hs : sa.reverse = As) (ho : yO Z = ci ∧ ci < 9) (hc : gCs st ≤ 16) (hn : (gSp ((2, a) :: As)).length ≤ yL Z) : R d Y pc ls (sa ++ (2, a) :: st) w m K = ((wS w a).1 = ci ∧ C d Z ((2, a) :: As) w m (fun r w' m' => R d Y (pc + 3) ls (r.toList ++ st) w' m' K)) := by
  have e1 : (sa ++ (2, a) :: st).take n = sa := by rw [← hl]; simp
  have e2 : (sa ++ (2, a) :: st).drop n = (2, a) :: st := by rw [← hl]; simp
  refine R_callif (c := (Z, (2, a) :: As, st)) hd rfl rfl ?_
  obtain ⟨h1, h2⟩ := ho
  have h5 : ¬ ci = 10 := by omega
  by_cases h : (wS w a).1 = ci
  · have h6 : ¬ ci = 120 := by omega
    simp [gCal, hm, e1, e2, hs, h1, hc, hn, h, h2, hl]
  · simp [gCal, hm, e1, e2, hs, h1, h, h5]
theorem rs_c1s {idx n : Nat} {Z : gY} {a : Int} {As sa : List gV} (hd : decode (yC Y) pc = .ok (.invokevirtual idx, 3)) (hm : tM (yO Y) idx = some (1, n, Z)) (hl : sa.length = n) (hs : sa.reverse = As) (ho : yO Z = 10) (hc : gCs st ≤ 16) (hn : (gSp ((2, a) :: As)).length ≤ yL Z) : R d Y pc ls (sa ++ (2, a) :: st) w m K = ((wS w a).1 = 120 ∧ C d Z ((2, a) :: As) w m (fun r w' m' => R d Y (pc + 3) ls (r.toList ++ st) w' m' K)) := by
  have e1 : (sa ++ (2, a) :: st).take n = sa := by rw [← hl]; simp
  have e2 : (sa ++ (2, a) :: st).drop n = (2, a) :: st := by rw [← hl]; simp
  refine R_callif (c := (Z, (2, a) :: As, st)) hd rfl rfl ?_
  by_cases h : (wS w a).1 = 120
  · simp [gCal, hm, e1, e2, hs, ho, hc, hn, h, hl]
  · simp [gCal, hm, e1, e2, hs, ho, h]
theorem rs_c2 {idx n : Nat} {Z : gY} {a : Int} {As sa : List gV} (hd : decode (yC Y) pc = .ok (.invokespecial idx, 3)) (hi : tI (yO Y) idx = none) (hm : tM (yO Y) idx = some (2, n, Z)) (hl : sa.length = n) (hs : sa.reverse = As) (hc : gCs st ≤ 16) (hn : (gSp ((2, a) :: As)).length ≤ yL Z) : R d Y pc ls (sa ++ (2, a) :: st) w m K = (0 ≤ a ∧ C d Z ((2, a) :: As) w m (fun r w' m' => R d Y (pc + 3) ls (r.toList ++ st) w' m' K)) := by
  have e1 : (sa ++ (2, a) :: st).take n = sa := by rw [← hl]; simp
  have e2 : (sa ++ (2, a) :: st).drop n = (2, a) :: st := by rw [← hl]; simp
  have e0 : ∃ v r, sa ++ (2, a) :: st = v :: r := by cases sa with | nil => exact ⟨_, _, rfl⟩ | cons v r => exact ⟨_, _, rfl⟩
  refine R_callif (c := (Z, (2, a) :: As, st)) hd ?_ rfl ?_
  · obtain ⟨v, r, e⟩ := e0
    rw [e]
    simp [gIns, gLk, gIns0, xOb, hi]
  · by_cases h : 0 ≤ a
    · simp [gCal, hm, e1, e2, hs, hc, hn, h, hl]
    · simp [gCal, hm, e1, e2, hs, h]
theorem rs_ret (hd : decode (yC Y) pc = .ok (.return_, 1)) (hr : yR Y = none) : R d Y pc ls [] w m K = K none w m := R_ret hd rfl (by simp [gRet, hr])
theorem rs_iret {z : Int} (hd : decode (yC Y) pc = .ok (.ireturn, 1)) (hr : yR Y = some .int) : R d Y pc ls [(0, z)] w m K = K (some (0, z)) w m := R_ret hd rfl (by simp [gRet, hr])
theorem rs_lret {z : Int} (hd : decode (yC Y) pc = .ok (.lreturn, 1)) (hr : yR Y = some .long) : R d Y pc ls [(1, z)] w m K = K (some (1, z)) w m := R_ret hd rfl (by simp [gRet, hr])
theorem rs_aret {z : Int} (hd : decode (yC Y) pc = .ok (.areturn, 1)) (hr : yR Y = some (.object "java/lang/String")) : R d Y pc ls [(2, z)] w m K = K (some (2, z)) w m := R_ret hd rfl (by simp [gRet, hr])
theorem R_retif {ins : Instr} {r : Option gV} {c : Prop} [Decidable c] (hd : decode (yC Y) pc = .ok (ins, 1)) (h : gIns Y pc 1 ins ls st w m = none) (h2 : gRet Y ins st = if c then some r else none) (h3 : gCal Y ins st w = none) : R d Y pc ls st w m K = (c ∧ K r w m) := by
  by_cases hc : c
  · rw [if_pos hc] at h2
    rw [R_ret hd h h2]
    simp [hc]
  · rw [if_neg hc] at h2
    rw [R_no hd h h2 h3]
    simp [hc]
theorem rs_zret {z : Int} (hd : decode (yC Y) pc = .ok (.ireturn, 1)) (hr : yR Y = some .boolean) : R d Y pc ls [(0, z)] w m K = ((z = 0 ∨ z = 1) ∧ K (some (0, z)) w m) := R_retif hd rfl (by simp [gRet, hr]) rfl
theorem rs_bret {z : Int} (hd : decode (yC Y) pc = .ok (.ireturn, 1)) (hr : yR Y = some .byte) : R d Y pc ls [(0, z)] w m K = ((-128 ≤ z ∧ z ≤ 127) ∧ K (some (0, z)) w m) := R_retif hd rfl (by simp [gRet, hr]) rfl
theorem rs_cret {z : Int} (hd : decode (yC Y) pc = .ok (.ireturn, 1)) (hr : yR Y = some .char) : R d Y pc ls [(0, z)] w m K = ((0 ≤ z ∧ z ≤ 65535) ∧ K (some (0, z)) w m) := R_retif hd rfl (by simp [gRet, hr]) rfl
theorem C_in {As : List gV} : C (d + 1) Y As w m K = R d Y 0 (gEnt As (yL Y)) [] w m K := rfl
end RULES2
