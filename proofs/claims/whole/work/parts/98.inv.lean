/-! the law's invariant: both sides hold the same book, image, tapes and text. -/
def LIx (xs : Int → Int) (m : gM) (X Y : Int) (b kb : Bk) (T : T3) (S : TX) : Prop := CI xs m X Y b kb ∧ MI m b ∧ GB b ∧ ((m 0 3 = 0 ∨ m 0 3 = 1) ∧ m 213 4 = m 0 3 ∧ (m 0 3 = 1 → GB kb ∧ BM (m 215) kb)) ∧ (TPc m T ∧ TPm m T ∧ TPo T) ∧ (TXc m S ∧ TXm m S ∧ TXo S)
def LI (xs : Int → Int) (m : gM) (X Y : Int) : Prop := ∃ b kb T S, LIx xs m X Y b kb T S
section INV
variable {L d N : Nat} {z X Y X1 Y1 : Int} {m m' m1 m2 : gM} {b b1 kb kb1 : Bk} {T T1 : T3} {S S1 : TX} {xs : Int → Int}
theorem TPc_fr (h : TPc m T) (f : ∀ a, 203 ≤ a → a ≤ 211 → m' a = m a) : TPc m' T := fun t t0 t1 => by
  have a := h t t0 t1
  exact ⟨by rw [f 203 (by omega) (by omega)]; exact a.1, by rw [f 211 (by omega) (by omega)]; exact a.2.1, fun i i0 i1 => by rw [f (205 + t) (by omega) (by omega)]; exact a.2.2 i i0 i1⟩
theorem TPm_fr (h : TPm m T) (f : ∀ a, 240 ≤ a → a ≤ 243 → m' a = m a) : TPm m' T := fun t t0 t1 => by
  have a := h t t0 t1
  exact ⟨by rw [f 240 (by omega) (by omega)]; exact a.1, by rw [f 241 (by omega) (by omega)]; exact a.2.1, fun i i0 i1 => by rw [f 242 (by omega) (by omega)]; exact a.2.2 i i0 i1⟩
theorem TXc_fr (h : TXc m S) (f : ∀ a, a = 188 ∨ a = 201 → m' a = m a) : TXc m' S := ⟨by rw [f 188 (by omega)]; exact h.1, fun i i0 i1 => by rw [f 201 (by omega)]; exact h.2 i i0 i1⟩
theorem TXm_fr (h : TXm m S) (f0 : m' 213 35 = m 213 35) (f : m' 237 = m 237) : TXm m' S := ⟨by rw [f0]; exact h.1, fun i i0 i1 => by rw [f]; exact h.2 i i0 i1⟩
theorem MI_fr (h : MI m b) (f : ∀ a, 214 ≤ a → a ≤ 236 → a ≠ 215 → m' a = m a) (f2 : ∀ i, i < 35 → i ≠ 4 → m' 213 i = m 213 i) : MI m' b := by
  obtain ⟨hb, hD, hu⟩ := h
  exact ⟨by rw [f 214 (by omega) (by omega) (by omega)]; exact hb, DerM_fr hD (fun i hi => f2 i (by omega) (by omega)) (fun a h1 h2 => f a (by omega) (by omega) (by omega)), fun o o0 o1 => by rw [f 236 (by omega) (by omega) (by omega)]; exact hu o o0 o1⟩
theorem CI_low (h : CI xs m X Y b kb) (f : ∀ a, a < 188 → m' a = m a) : CI xs m' X Y b kb := CI_fr h (fun a h1 _ _ _ _ _ _ => f a h1)
theorem MI_K (h : MI m b) (f : FrK m m') : MI m' b := MI_fr h (fun a h1 h2 _ => f a (by omega)) (fun i _ _ => by rw [f 213 (by omega)])
theorem LI_1 (h : LIx xs m X Y b kb T S) (c1 : CI xs m1 X1 Y1 b1 kb) (f1 : FrK m m1) (i2 : MI m2 b1) (f2 : FrM m1 m2) (g : GB b1) : LI xs m2 X1 Y1 := by
  obtain ⟨hc, hm, hg, ⟨q1, q2, q3⟩, ⟨t1, t2, t3⟩, s1, s2, s3⟩ := h
  have e0 : m2 0 = m 0 := by rw [f2.1 0 (by omega), f1 0 (by omega)]
  have e4 : m2 213 4 = m 213 4 := by rw [f2.2 4 (by omega) (by omega), f1 213 (by omega)]
  refine ⟨b1, kb, T, S, CI_low c1 (fun a ha => f2.1 a (by omega)), i2, g, ⟨by rw [e0]; exact q1, by rw [e4, e0]; exact q2, fun h => ?_⟩, ⟨TPc_fr t1 (fun a h1 h2 => by rw [f2.1 a (by omega), f1 a (by omega)]), TPm_fr t2 (fun a h1 h2 => by rw [f2.1 a (by omega), f1 a (by omega)]), t3⟩, TXc_fr s1 (fun a ha => by rw [f2.1 a (by omega), f1 a (by omega)]), TXm_fr s2 (by rw [f2.2 35 (by omega) (by omega), f1 213 (by omega)]) (by rw [f2.1 237 (by omega), f1 237 (by omega)]), s3⟩
  rw [e0] at h
  refine ⟨(q3 h).1, ?_⟩
  rw [f2.1 215 (by omega), f1 215 (by omega)]
  exact (q3 h).2
theorem LI_T (h : LIx xs m X Y b kb T S) (f1 : FrT m m1) (u1 : TPc m1 T1) (f2 : FrU m1 m2) (u2 : TPm m2 T1) (u3 : TPo T1) : LI xs m2 X Y := by
  obtain ⟨hc, hm, hg, ⟨q1, q2, q3⟩, ⟨t1, t2, t3⟩, s1, s2, s3⟩ := h
  have e : ∀ a, (a < 203 ∨ (211 < a ∧ a < 240)) → m2 a = m a := fun a ha => by rw [f2 a (by omega), f1 a (by omega)]
  refine ⟨b, kb, T1, S, CI_low hc (fun a ha => e a (by omega)), MI_fr hm (fun a h1 h2 _ => e a (by omega)) (fun i _ _ => by rw [e 213 (by omega)]), hg, ⟨by rw [e 0 (by omega)]; exact q1, by rw [e 213 (by omega), e 0 (by omega)]; exact q2, fun h => ?_⟩, ⟨TPc_fr u1 (fun a h1 h2 => f2 a (by omega)), u2, u3⟩, TXc_fr s1 (fun a ha => e a (by omega)), TXm_fr s2 (by rw [e 213 (by omega)]) (e 237 (by omega)), s3⟩
  rw [e 0 (by omega)] at h
  rw [e 215 (by omega)]
  exact q3 h
theorem LI_F (h : LIx xs m X Y b kb T S) (f1 : FrX m m1) (u1 : TXc m1 S1) (f2 : FrY m1 m2) (u2 : TXm m2 S1) (u3 : TXo S1) : LI xs m2 X Y := by
  obtain ⟨hc, hm, hg, ⟨q1, q2, q3⟩, ⟨t1, t2, t3⟩, s1, s2, s3⟩ := h
  have e : ∀ a, (a < 188 ∨ (201 < a ∧ a < 237) ∨ 239 < a) → a ≠ 213 → m2 a = m a := fun a ha hb => by rw [f2.1 a (by omega) (by omega), f1 a (by omega)]
  have e2 : ∀ i, i < 35 → m2 213 i = m 213 i := fun i hi => by rw [f2.2 i hi, f1 213 (by omega)]
  refine ⟨b, kb, T, S1, CI_low hc (fun a ha => e a (by omega) (by omega)), MI_fr hm (fun a h1 h2 _ => e a (by omega) (by omega)) (fun i hi _ => e2 i hi), hg, ⟨by rw [e 0 (by omega) (by omega)]; exact q1, by rw [e2 4 (by omega), e 0 (by omega) (by omega)]; exact q2, fun h => ?_⟩, ⟨TPc_fr t1 (fun a h1 h2 => e a (by omega) (by omega)), TPm_fr t2 (fun a h1 h2 => e a (by omega) (by omega)), t3⟩, TXc_fr u1 (fun a ha => f2.1 a (by omega) (by omega)), u2, u3⟩
  rw [e 0 (by omega) (by omega)] at h
  rw [e 215 (by omega) (by omega)]
  exact q3 h
theorem LI_R (h : LIx xs m X Y b kb T S) (c1 : CI xs m1 X1 Y1 b1 kb) (f1 : FrKX m m1) (u1 : TXc m1 S1) (i2 : MI m2 b1) (g : GB b1) (f2 : FrMY m1 m2) (u2 : TXm m2 S1) (u3 : TXo S1) : LI xs m2 X1 Y1 := by
  obtain ⟨hc, hm, hg, ⟨q1, q2, q3⟩, ⟨t1, t2, t3⟩, s1, s2, s3⟩ := h
  have e : ∀ a, (a = 0 ∨ a = 215 ∨ (203 ≤ a ∧ a ≤ 211) ∨ 239 < a) → m2 a = m a := fun a ha => by rw [f2.1 a (by omega), f1 a (by omega)]
  have e4 : m2 213 4 = m 213 4 := by rw [f2.2 4 (by omega) (by omega), f1 213 (by omega)]
  refine ⟨b1, kb, T, S1, CI_low c1 (fun a ha => f2.1 a (by omega)), i2, g, ⟨by rw [e 0 (by omega)]; exact q1, by rw [e4, e 0 (by omega)]; exact q2, fun h => ?_⟩, ⟨TPc_fr t1 (fun a h1 h2 => e a (by omega)), TPm_fr t2 (fun a h1 h2 => e a (by omega)), t3⟩, TXc_fr u1 (fun a ha => f2.1 a (by omega)), u2, u3⟩
  rw [e 0 (by omega)] at h
  rw [e 215 (by omega)]
  exact q3 h
theorem LI_I (h : LIx xs m X Y b kb T S) (c1 : CI xs m1 X Y b b) (f1 : ∀ a, (a < 0 ∨ 187 < a) → m1 a = m a) (h1 : m1 0 3 = 1) (i2 : MI m2 b) (f2 : ∀ a, a ≠ 213 → a ≠ 215 → m2 a = m1 a) (f3 : ∀ i, i ≠ 4 → m2 213 i = m1 213 i) (h2 : m2 213 4 = 1) (h3 : BM (m2 215) b) : LI xs m2 X Y := by
  obtain ⟨hc, hm, hg, ⟨q1, q2, q3⟩, ⟨t1, t2, t3⟩, s1, s2, s3⟩ := h
  have e : ∀ a, 187 < a → a ≠ 213 → a ≠ 215 → m2 a = m a := fun a ha h1 h2 => by rw [f2 a h1 h2, f1 a (by omega)]
  have e0 : m2 0 3 = 1 := by rw [f2 0 (by omega) (by omega)]; exact h1
  exact ⟨b, b, T, S, CI_low c1 (fun a ha => f2 a (by omega) (by omega)), i2, hg, ⟨Or.inr e0, by rw [h2, e0], fun _ => ⟨hg, h3⟩⟩, ⟨TPc_fr t1 (fun a h1 h2 => e a (by omega) (by omega) (by omega)), TPm_fr t2 (fun a h1 h2 => e a (by omega) (by omega) (by omega)), t3⟩, TXc_fr s1 (fun a ha => e a (by omega) (by omega) (by omega)), TXm_fr s2 (by rw [f3 35 (by omega), f1 213 (by omega)]) (e 237 (by omega) (by omega) (by omega)), s3⟩
theorem TXo_0 (h : TXo S) : TXo (0, S.2) := ⟨⟨by show (0 : Int) ≤ 0; omega, by show (0 : Int) ≤ 100; omega⟩, fun i i0 i1 => absurd i1 (by show ¬ i < 0; omega)⟩
end INV
