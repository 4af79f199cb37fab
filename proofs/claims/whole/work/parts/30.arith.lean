/-! NUMBERS of the plain machine that stay in range. -/
theorem okI_i (a b : Int) : okI (iadd a b) := okI32 _
theorem iadd_ok {a b : Int} (h1 : -2147483648 ≤ a + b) (h2 : a + b ≤ 2147483647) : iadd a b = a + b := by
  rw [iadd, ← Int32.ofInt_add, to32 ⟨h1, h2⟩]
theorem isub_ok {a b : Int} (h1 : -2147483648 ≤ a - b) (h2 : a - b ≤ 2147483647) : isub a b = a - b := by
  rw [isub, ← Int32.ofInt_sub, to32 ⟨h1, h2⟩]
theorem imul_ok {a b : Int} (h1 : -2147483648 ≤ a * b) (h2 : a * b ≤ 2147483647) : imul a b = a * b := by
  rw [imul, ← Int32.ofInt_mul, to32 ⟨h1, h2⟩]
theorem ineg_ok {a : Int} (h1 : -2147483648 ≤ -a) (h2 : -a ≤ 2147483647) : ineg a = -a := by
  rw [ineg, ← Int32.ofInt_neg, to32 ⟨h1, h2⟩]
theorem ladd_ok {a b : Int} (h1 : -9223372036854775808 ≤ a + b) (h2 : a + b ≤ 9223372036854775807) : ladd a b = a + b := by
  rw [ladd, ← Int64.ofInt_add, to64 ⟨h1, h2⟩]
theorem lsub_ok {a b : Int} (h1 : -9223372036854775808 ≤ a - b) (h2 : a - b ≤ 9223372036854775807) : lsub a b = a - b := by
  rw [lsub, ← Int64.ofInt_sub, to64 ⟨h1, h2⟩]
theorem lmul_ok {a b : Int} (h1 : -9223372036854775808 ≤ a * b) (h2 : a * b ≤ 9223372036854775807) : lmul a b = a * b := by
  rw [lmul, ← Int64.ofInt_mul, to64 ⟨h1, h2⟩]
theorem lneg_ok {a : Int} (h1 : -9223372036854775808 ≤ -a) (h2 : -a ≤ 9223372036854775807) : lneg a = -a := by
  rw [lneg, ← Int64.ofInt_neg, to64 ⟨h1, h2⟩]
theorem idiv_ok {a b : Int} (ha : okI a) (hb : okI b) (h : okI (a.tdiv b)) : idiv a b = a.tdiv b := by
  rw [idiv, Int32.toInt_div, to32 ha, to32 hb]
  exact Int.bmod_eq_of_le (by have := h.1; omega) (by have := h.2; omega)
theorem ldiv_ok {a b : Int} (ha : okL a) (hb : okL b) (h : okL (a.tdiv b)) : ldiv a b = a.tdiv b := by
  rw [ldiv, Int64.toInt_div, to64 ha, to64 hb]
  exact Int.bmod_eq_of_le (by have := h.1; omega) (by have := h.2; omega)
theorem irem_ok {a b : Int} (ha : okI a) (hb : okI b) (h : okI (a.tmod b)) : irem a b = a.tmod b := by
  rw [irem]
  have e : (Int32.ofInt a / Int32.ofInt b * Int32.ofInt b) = Int32.ofInt (a.tdiv b * b) := by
    rw [Int32.ofInt_mul]
    congr 1
    rw [← Int32.toInt_inj, Int32.toInt_div, to32 ha, to32 hb, Int32.toInt_ofInt]
  rw [e, ← Int32.ofInt_sub]
  have : a - a.tdiv b * b = a.tmod b := by
    have := Int.tdiv_mul_add_tmod a b
    omega
  rw [this, to32 h]
theorem lrem_ok {a b : Int} (ha : okL a) (hb : okL b) (h : okL (a.tmod b)) : lrem a b = a.tmod b := by
  rw [lrem]
  have e : (Int64.ofInt a / Int64.ofInt b * Int64.ofInt b) = Int64.ofInt (a.tdiv b * b) := by
    rw [Int64.ofInt_mul]
    congr 1
    rw [← Int64.toInt_inj, Int64.toInt_div, to64 ha, to64 hb, Int64.toInt_ofInt]
  rw [e, ← Int64.ofInt_sub]
  have : a - a.tdiv b * b = a.tmod b := by
    have := Int.tdiv_mul_add_tmod a b
    omega
  rw [this, to64 h]
theorem l2i_ok {a : Int} (h1 : -2147483648 ≤ a) (h2 : a ≤ 2147483647) : l2i a = a := by
  have h : okI a := ⟨h1, h2⟩
  rw [l2i, Int64.toInt_toInt32, to64 (okIL h)]
  exact Int.bmod_eq_of_le (by omega) (by omega)
theorem lcmp_lt (a b : Int) : (lcmp a b < 0) = (a < b) := by
  unfold lcmp; apply propext; by_cases h1 : b < a <;> by_cases h2 : a = b <;> simp [h1, h2] <;> omega
theorem lcmp_le (a b : Int) : (lcmp a b ≤ 0) = (a ≤ b) := by
  unfold lcmp; apply propext; by_cases h1 : b < a <;> by_cases h2 : a = b <;> simp [h1, h2] <;> omega
theorem lcmp_gt (a b : Int) : (0 < lcmp a b) = (b < a) := by
  unfold lcmp; apply propext; by_cases h1 : b < a <;> by_cases h2 : a = b <;> simp [h1, h2] <;> omega
theorem lcmp_ge (a b : Int) : (0 ≤ lcmp a b) = (b ≤ a) := by
  unfold lcmp; apply propext; by_cases h1 : b < a <;> by_cases h2 : a = b <;> simp [h1, h2] <;> omega
theorem lcmp_eq (a b : Int) : (lcmp a b = 0) = (a = b) := by
  unfold lcmp; apply propext; by_cases h1 : b < a <;> by_cases h2 : a = b <;> simp [h1, h2] <;> omega
theorem imax_eq (a b : Int) : imax a b = max a b := by unfold imax; omega
theorem imin_eq (a b : Int) : imin a b = min a b := by unfold imin; omega
/-- the number without its sign -/
def ab (a : Int) : Int := if 0 ≤ a then a else -a
theorem iabs_ok {a : Int} (h1 : -2147483647 ≤ a) (h2 : a ≤ 2147483647) : iabs a = ab a := by
  unfold iabs ab
  split
  · rfl
  · rw [isub_ok (by omega) (by omega)]; omega
theorem labs_ok {a : Int} (h1 : -9223372036854775807 ≤ a) (h2 : a ≤ 9223372036854775807) : labs a = ab a := by
  unfold labs ab
  split
  · rfl
  · rw [lneg_ok (by omega) (by omega)]
theorem ab_nn (a : Int) : 0 ≤ ab a := by unfold ab; split <;> omega
/-- writes and reads of the memory -/
theorem gU_same (m : gM) (a i v : Int) : gU m a i v a i = v := by simp [gU]
theorem gU_ne {m : gM} {a i v a' i' : Int} (h : a' = a → i' = i → False) : gU m a i v a' i' = m a' i' := by
  unfold gU
  rw [if_neg (fun q => h q.1 q.2)]
theorem gU_a {m : gM} {a i v a' i' : Int} (h : a' ≠ a) : gU m a i v a' i' = m a' i' := gU_ne (fun q _ => h q)
theorem gU_i {m : gM} {a i v i' : Int} (h : i' ≠ i) : gU m a i v a i' = m a i' := gU_ne (fun _ q => h q)
/-- a for loop: n is how often at most; I what holds at its head -/
theorem R_for {d : Nat} {Y : gY} {pc : Nat} {st : List gV} {w : gW} {K : Option gV → gW → gM → Prop} (n : Nat) (I : Nat → List gV → gM → Prop)
    (hs : ∀ (i : Nat) (ls : List gV) (m : gM), i < n → I i ls m → (∀ (ls' : List gV) (m' : gM), I (i + 1) ls' m' → R d Y pc ls' st w m' K) → R d Y pc ls st w m K)
    (he : ∀ (ls : List gV) (m : gM), I n ls m → R d Y pc ls st w m K) : ∀ (k i : Nat) (ls : List gV) (m : gM), n - i = k → i ≤ n → I i ls m → R d Y pc ls st w m K := by
  intro k
  induction k with
  | zero =>
    intro i ls m h1 h2 h
    have : i = n := by omega
    subst this
    exact he ls m h
  | succ k ih =>
    intro i ls m h1 h2 h
    exact hs i ls m (by omega) h (fun ls' m' h' => ih (i + 1) ls' m' (by omega) (by omega) h')
theorem R_for0 {d : Nat} {Y : gY} {pc : Nat} {st : List gV} {w : gW} {K : Option gV → gW → gM → Prop} {ls : List gV} {m : gM} (n : Nat) (I : Nat → List gV → gM → Prop) (h0 : I 0 ls m)
    (hs : ∀ (i : Nat) (ls : List gV) (m : gM), i < n → I i ls m → (∀ (ls' : List gV) (m' : gM), I (i + 1) ls' m' → R d Y pc ls' st w m' K) → R d Y pc ls st w m K)
    (he : ∀ (ls : List gV) (m : gM), I n ls m → R d Y pc ls st w m K) : R d Y pc ls st w m K := R_for n I hs he (n - 0) 0 ls m rfl (Nat.zero_le _) h0
