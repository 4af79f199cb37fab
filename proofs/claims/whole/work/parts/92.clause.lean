/-! the class's parser. -/
def pcl (S : TX) (p : Int) : Int × Int × (Int → Int) := if p < S.1 ∧ fm (S.2 p) ≠ [] then pf S (fm (S.2 p)) (p + 1) 0 0 (fun _ => 0) else (0, p, fun _ => 0)
section PARSE3
variable {L d N : Nat} {z X Y q r v t c n j e s o u x y i p : Int} {w : gW} {m m' : gM} {S : TX} {xs : Int → Int} {K : Option gV → gW → gM → Prop}
set_option maxHeartbeats 800000 in
theorem c_cl1 (hs : wS (w0 L z X Y) s = (120, 0)) (hp : wP (w0 L z X Y) s 0 = q) (hq : wS (w0 L z X Y) q = (110, N)) (hn : ishr (N : Int) 0 = N) (hs0 : s < 0) (hq0 : q < 0) (ho : TXo S) (hc : 0 ≤ c ∧ c ≤ 9) (hr : wP (w0 L z X Y) 190 c = 191 + c) (hr2 : wS (w0 L z X Y) (191 + c) = (100, 6)) (hN8 : (N : Int) ≤ 8) (hN1 : 1 ≤ N) {fs : List Int} (hfm : fm (S.2 p) = fs) (hfne : fs ≠ []) (hlen : fs.length = N) (hrow : ∀ (j : Nat) v, fs[j]? = some v → m q j = v ∧ fch v) (e0 : m s 1 = 0) (hS : TXc m S) (ep : m 188 5 = p) (p0 : 0 ≤ p) (p1 : p < S.1) (hcnt : cnt fs ≤ 6) (hform : ∀ K : Option gV → gW → gM → Prop, C (d + 4) M_X4_formOf [(0, S.2 p)] (w0 L z X Y) m K = K (some (2, s)) (w0 L z X Y) m) (hk : ∀ m', FrC c m m' → m' 188 5 = (pcl S p).2.1 → ((pcl S p).1 = 1 → m' 189 c = S.2 p ∧ ∀ q, 0 ≤ q → q < cnt (fm (S.2 p)) → m' (191 + c) q = (pcl S p).2.2 q) → (pcl S p).1 = 0 ∨ (pcl S p).1 = 1 → 0 ≤ (pcl S p).2.1 → (pcl S p).2.1 ≤ S.1 → K (some (0, (pcl S p).1)) (w0 L z X Y) m') : C (d + 5) M_X4_parseClause [(2, 188), (0, c)] (w0 L z X Y) m K := by
  obtain ⟨e2, e3⟩ := hS
  obtain ⟨⟨o1, o2⟩, o3⟩ := ho
  have ho' : TXo S := ⟨⟨o1, o2⟩, o3⟩
  have e4 := e3 p p0 p1
  unfold pcl at hk
  rw [hfm, if_pos ⟨p1, hfne⟩] at hk
  have ke : ∀ K : Option gV → gW → gM → Prop, C (d + 4) M_J0_isEmpty_aae02 [(2, s)] (w0 L z X Y) m K = K (some (0, 0)) (w0 L z X Y) m := fun K => by
    simp (disch := first | assumption | omega | (simp (disch := omega) only [gU_row, gU_same, gU_i, gCp_row] <;> omega)) only [e_J0_isEmpty_aae02, s_J0_isEmpty_aae02_0, s_J0_isEmpty_aae02_1, s_J0_isEmpty_aae02_4, s_J0_isEmpty_aae02_5, s_J0_isEmpty_aae02_8, s_J0_isEmpty_aae02_9, s_J0_isEmpty_aae02_12, s_J0_isEmpty_aae02_13, ↓reduceIte, Option.toList_some, Option.toList_none, List.cons_append, List.nil_append, List.singleton_append, List.append_nil, true_and, and_true, true_or, or_true, andT, iteT, iteF, itT, itF, hs, hp, hq, e0]
  have main : R (d + 4) M_X4_parseClause 71 [(2, 188), (0, c), (2, s), (0, 0), (0, 0), (0, 0), (3, 0), (3, 0)] [] (w0 L z X Y) (gU (gU m 189 c (S.2 p)) 188 5 (p + 1)) K := by
    refine c_form hs hp hq hn hs0 hq0 ho' hc hr hr2 hN8 fs 0 (p + 1) 0 0 (fun _ => 0) _ _ _ K (by omega) (by omega) (fun j v h => ?_) (by rw [gU_row (by omega), gU_row (by omega)]; exact e0) ⟨by rw [gU_ne (by omega), gU_row (by omega)]; exact e2, fun i h0 h1 => by rw [gU_row (by omega), gU_row (by omega)]; exact e3 i h0 h1⟩ (gU_same ..) (by omega) (by omega) (Or.inl rfl) (by omega) (by omega) (fun q q0 q1 => by omega) (fun m' f1 f2 f3 f4 f5 f6 f7 => ?_)
    · rw [gU_row (by omega), gU_row (by omega), Int.zero_add]; exact hrow j v h
    · refine hk m' (fun a i h1 h2 h3 => ?_) f3 (fun h => ⟨by rw [f2, gU_row (by omega), gU_same], fun q q0 q1 => f4 h q q0 (by omega)⟩) f5 f6 f7
      rw [f1 a i h1 h2 h3]
      by_cases h4 : a = 188
      · rw [h4, gU_ne (fun _ h => h1 h4 h), gU_row (by omega)]
      · rw [gU_row h4]
        by_cases h5 : a = 189
        · rw [h5, gU_ne (fun _ h => h2 h5 h)]
        · rw [gU_row h5]
  have ep' : gU m 189 c (S.2 p) 188 5 = p := by rw [gU_row (by omega)]; exact ep
  simp (disch := first | assumption | omega | (simp (disch := omega) only [gU_row, gU_same, gU_i, gCp_row] <;> omega)) only [e_X4_parseClause, s_X4_parseClause_0, s_X4_parseClause_1, s_X4_parseClause_4, s_X4_parseClause_5, s_X4_parseClause_8, s_X4_parseClause_11, s_X4_parseClause_12, s_X4_parseClause_15, s_X4_parseClause_16, s_X4_parseClause_19, s_X4_parseClause_20, s_X4_parseClause_23, s_X4_parseClause_26, s_X4_parseClause_28, s_X4_parseClause_29, s_X4_parseClause_30, s_X4_parseClause_33, s_X4_parseClause_36, s_X4_parseClause_37, s_X4_parseClause_38, s_X4_parseClause_39, s_X4_parseClause_42, s_X4_parseClause_43, s_X4_parseClause_44, s_X4_parseClause_47, s_X4_parseClause_48, s_X4_parseClause_51, s_X4_parseClause_52, s_X4_parseClause_53, s_X4_parseClause_54, s_X4_parseClause_55, s_X4_parseClause_58, s_X4_parseClause_59, s_X4_parseClause_60, s_X4_parseClause_63, s_X4_parseClause_64, s_X4_parseClause_65, s_X4_parseClause_66, s_X4_parseClause_68, s_X4_parseClause_69, s_X4_parseClause_73, s_X4_parseClause_74, s_X4_parseClause_77, s_X4_parseClause_80, s_X4_parseClause_81, s_X4_parseClause_83, s_X4_parseClause_86, s_X4_parseClause_88, s_X4_parseClause_90, s_X4_parseClause_92, s_X4_parseClause_95, s_X4_parseClause_96, s_X4_parseClause_98, s_X4_parseClause_101, s_X4_parseClause_103, s_X4_parseClause_106, s_X4_parseClause_108, s_X4_parseClause_110, s_X4_parseClause_113, s_X4_parseClause_114, s_X4_parseClause_116, s_X4_parseClause_119, s_X4_parseClause_122, s_X4_parseClause_123, s_X4_parseClause_124, s_X4_parseClause_125, s_X4_parseClause_127, s_X4_parseClause_129, s_X4_parseClause_130, s_X4_parseClause_133, s_X4_parseClause_135, s_X4_parseClause_137, s_X4_parseClause_140, s_X4_parseClause_141, s_X4_parseClause_143, s_X4_parseClause_146, s_X4_parseClause_147, s_X4_parseClause_148, s_X4_parseClause_149, s_X4_parseClause_152, s_X4_parseClause_153, s_X4_parseClause_154, s_X4_parseClause_155, s_X4_parseClause_157, s_X4_parseClause_160, s_X4_parseClause_162, s_X4_parseClause_163, s_X4_parseClause_166, s_X4_parseClause_168, s_X4_parseClause_169, s_X4_parseClause_172, s_X4_parseClause_173, s_X4_parseClause_175, s_X4_parseClause_178, s_X4_parseClause_181, s_X4_parseClause_182, ↓reduceIte, Option.toList_some, Option.toList_none, List.cons_append, List.nil_append, List.singleton_append, List.append_nil, true_and, and_true, true_or, or_true, andT, iteT, iteF, itT, itF, zS_188, zP_188_4, zS_201, zP_188_2, zS_189, hs, ep, ep', e2, e4, hform, ke, iadd_ok]
  exact main
theorem fm_row {q : Int} {l : List Int} (h : ∀ (j : Nat) v, l[j]? = some v → fch v) (hq : ∀ i, m q i = lk l i) : ∀ (j : Nat) v, l[j]? = some v → m q j = v ∧ fch v := fun j v hj => ⟨by rw [hq]; unfold lk; simp [hj], h j v hj⟩
set_option maxHeartbeats 800000 in
theorem c_clause (hst : St xs m) (ho : TXo S) (hc : 0 ≤ c ∧ c ≤ 9) (hS : TXc m S) (ep : m 188 5 = p) (p0 : 0 ≤ p) (p1 : p ≤ S.1) (hk : ∀ m', FrC c m m' → m' 188 5 = (pcl S p).2.1 → ((pcl S p).1 = 1 → m' 189 c = S.2 p ∧ ∀ q, 0 ≤ q → q < cnt (fm (S.2 p)) → m' (191 + c) q = (pcl S p).2.2 q) → (pcl S p).1 = 0 ∨ (pcl S p).1 = 1 → 0 ≤ (pcl S p).2.1 → (pcl S p).2.1 ≤ S.1 → K (some (0, (pcl S p).1)) (w0 L z X Y) m') : C (d + 5) M_X4_parseClause [(2, 188), (0, c)] (w0 L z X Y) m K := by
  have e2 := hS.1
  have o1 := ho.1
  have hc' : c = 0 ∨ c = 1 ∨ c = 2 ∨ c = 3 ∨ c = 4 ∨ c = 5 ∨ c = 6 ∨ c = 7 ∨ c = 8 ∨ c = 9 := by omega
  have hr : wP (w0 L z X Y) 190 c = 191 + c := by rcases hc' with h | h | h | h | h | h | h | h | h | h <;> subst h <;> rfl
  have hr2 : wS (w0 L z X Y) (191 + c) = (100, 6) := by rcases hc' with h | h | h | h | h | h | h | h | h | h <;> subst h <;> rfl
  have ke : ∀ K : Option gV → gW → gM → Prop, C (d + 4) M_J0_isEmpty_aae02 [(2, -12)] (w0 L z X Y) m K = K (some (0, 1)) (w0 L z X Y) m := fun K => by
    simp (disch := first | assumption | omega | (simp (disch := omega) only [gU_row, gU_same, gU_i, gCp_row] <;> omega)) only [e_J0_isEmpty_aae02, s_J0_isEmpty_aae02_0, s_J0_isEmpty_aae02_1, s_J0_isEmpty_aae02_4, s_J0_isEmpty_aae02_5, s_J0_isEmpty_aae02_8, s_J0_isEmpty_aae02_9, s_J0_isEmpty_aae02_12, s_J0_isEmpty_aae02_13, ↓reduceIte, Option.toList_some, Option.toList_none, List.cons_append, List.nil_append, List.singleton_append, List.append_nil, true_and, and_true, true_or, or_true, andT, iteT, iteF, itT, itF, zS_m12, zP_m12, zS_m17]
  by_cases h : p < S.1
  · have e4 := hS.2 p p0 h
    by_cases h1 : S.2 p = 116
    · have hf : fm (S.2 p) = [49, 49, 49, 46, 51, 46, 45, 51] := by rw [h1]; rfl
      refine c_cl1 (s := -8) (q := -13) (N := 8) zS_m8 zP_m8 zS_m13 (by decide) (by omega) (by omega) ho hc hr hr2 (by omega) (by omega) hf (by simp) rfl (fm_row (by rintro (_|_|_|_|_|_|_|_|j) v hv <;> simp at hv <;> subst hv <;> unfold fch <;> omega) (fun i => by rw [hst _ (by omega)]; rfl)) (by rw [hst _ (by omega)]; rfl) hS ep p0 h (by decide) (fun K => ?_) hk
      simp (disch := first | assumption | omega | (simp (disch := omega) only [gU_row, gU_same, gU_i, gCp_row] <;> omega)) only [e_X4_formOf, s_X4_formOf_0, s_X4_formOf_1, s_X4_formOf_48, s_X4_formOf_50, s_X4_formOf_51, s_X4_formOf_53, s_X4_formOf_54, s_X4_formOf_56, s_X4_formOf_57, s_X4_formOf_59, s_X4_formOf_60, s_X4_formOf_62, ↓reduceIte, Option.toList_some, Option.toList_none, List.cons_append, List.nil_append, List.singleton_append, List.append_nil, true_and, and_true, true_or, or_true, andT, iteT, iteF, itT, itF, h1, gSw]
    · by_cases h2 : S.2 p = 109
      · have hf : fm (S.2 p) = [46, 45, 50, 46, 45, 49, 46, 51] := by rw [h2]; rfl
        refine c_cl1 (s := -9) (q := -14) (N := 8) zS_m9 zP_m9 zS_m14 (by decide) (by omega) (by omega) ho hc hr hr2 (by omega) (by omega) hf (by simp) rfl (fm_row (by rintro (_|_|_|_|_|_|_|_|j) v hv <;> simp at hv <;> subst hv <;> unfold fch <;> omega) (fun i => by rw [hst _ (by omega)]; rfl)) (by rw [hst _ (by omega)]; rfl) hS ep p0 h (by decide) (fun K => ?_) hk
        simp (disch := first | assumption | omega | (simp (disch := omega) only [gU_row, gU_same, gU_i, gCp_row] <;> omega)) only [e_X4_formOf, s_X4_formOf_0, s_X4_formOf_1, s_X4_formOf_48, s_X4_formOf_50, s_X4_formOf_51, s_X4_formOf_53, s_X4_formOf_54, s_X4_formOf_56, s_X4_formOf_57, s_X4_formOf_59, s_X4_formOf_60, s_X4_formOf_62, ↓reduceIte, Option.toList_some, Option.toList_none, List.cons_append, List.nil_append, List.singleton_append, List.append_nil, true_and, and_true, true_or, or_true, andT, iteT, iteF, itT, itF, h2, gSw]
      · by_cases h3 : S.2 p = 111
        · have hf : fm (S.2 p) = [49, 49, 49, 49, 49, 46, 51] := by rw [h3]; rfl
          refine c_cl1 (s := -10) (q := -15) (N := 7) zS_m10 zP_m10 zS_m15 (by decide) (by omega) (by omega) ho hc hr hr2 (by omega) (by omega) hf (by simp) rfl (fm_row (by rintro (_|_|_|_|_|_|_|j) v hv <;> simp at hv <;> subst hv <;> unfold fch <;> omega) (fun i => by rw [hst _ (by omega)]; rfl)) (by rw [hst _ (by omega)]; rfl) hS ep p0 h (by decide) (fun K => ?_) hk
          simp (disch := first | assumption | omega | (simp (disch := omega) only [gU_row, gU_same, gU_i, gCp_row] <;> omega)) only [e_X4_formOf, s_X4_formOf_0, s_X4_formOf_1, s_X4_formOf_48, s_X4_formOf_50, s_X4_formOf_51, s_X4_formOf_53, s_X4_formOf_54, s_X4_formOf_56, s_X4_formOf_57, s_X4_formOf_59, s_X4_formOf_60, s_X4_formOf_62, ↓reduceIte, Option.toList_some, Option.toList_none, List.cons_append, List.nil_append, List.singleton_append, List.append_nil, true_and, and_true, true_or, or_true, andT, iteT, iteF, itT, itF, h3, gSw]
        · by_cases h4 : S.2 p = 112
          · have hf : fm (S.2 p) = [49, 46, 51] := by rw [h4]; rfl
            refine c_cl1 (s := -11) (q := -16) (N := 3) zS_m11 zP_m11 zS_m16 (by decide) (by omega) (by omega) ho hc hr hr2 (by omega) (by omega) hf (by simp) rfl (fm_row (by rintro (_|_|_|j) v hv <;> simp at hv <;> subst hv <;> unfold fch <;> omega) (fun i => by rw [hst _ (by omega)]; rfl)) (by rw [hst _ (by omega)]; rfl) hS ep p0 h (by decide) (fun K => ?_) hk
            simp (disch := first | assumption | omega | (simp (disch := omega) only [gU_row, gU_same, gU_i, gCp_row] <;> omega)) only [e_X4_formOf, s_X4_formOf_0, s_X4_formOf_1, s_X4_formOf_48, s_X4_formOf_50, s_X4_formOf_51, s_X4_formOf_53, s_X4_formOf_54, s_X4_formOf_56, s_X4_formOf_57, s_X4_formOf_59, s_X4_formOf_60, s_X4_formOf_62, ↓reduceIte, Option.toList_some, Option.toList_none, List.cons_append, List.nil_append, List.singleton_append, List.append_nil, true_and, and_true, true_or, or_true, andT, iteT, iteF, itT, itF, h4, gSw]
          · have hf : fm (S.2 p) = [] := by unfold fm; rw [if_neg h1, if_neg h2, if_neg h3, if_neg h4]
            have hp : pcl S p = (0, p, fun _ => 0) := by unfold pcl; rw [if_neg (fun h => h.2 hf)]
            rw [hp] at hk
            have hform : ∀ K : Option gV → gW → gM → Prop, C (d + 4) M_X4_formOf [(0, S.2 p)] (w0 L z X Y) m K = K (some (2, -12)) (w0 L z X Y) m := fun K => by
              by_cases h5 : S.2 p = 110 ∨ S.2 p = 113 ∨ S.2 p = 114 ∨ S.2 p = 115
              · rcases h5 with h5 | h5 | h5 | h5 <;> simp (disch := first | assumption | omega | (simp (disch := omega) only [gU_row, gU_same, gU_i, gCp_row] <;> omega)) only [e_X4_formOf, s_X4_formOf_0, s_X4_formOf_1, s_X4_formOf_48, s_X4_formOf_50, s_X4_formOf_51, s_X4_formOf_53, s_X4_formOf_54, s_X4_formOf_56, s_X4_formOf_57, s_X4_formOf_59, s_X4_formOf_60, s_X4_formOf_62, ↓reduceIte, Option.toList_some, Option.toList_none, List.cons_append, List.nil_append, List.singleton_append, List.append_nil, true_and, and_true, true_or, or_true, andT, iteT, iteF, itT, itF, h5, gSw]
              · simp (disch := first | assumption | omega | (simp (disch := omega) only [gU_row, gU_same, gU_i, gCp_row] <;> omega)) only [e_X4_formOf, s_X4_formOf_0, s_X4_formOf_1, s_X4_formOf_48, s_X4_formOf_50, s_X4_formOf_51, s_X4_formOf_53, s_X4_formOf_54, s_X4_formOf_56, s_X4_formOf_57, s_X4_formOf_59, s_X4_formOf_60, s_X4_formOf_62, ↓reduceIte, Option.toList_some, Option.toList_none, List.cons_append, List.nil_append, List.singleton_append, List.append_nil, true_and, and_true, true_or, or_true, andT, iteT, iteF, itT, itF, gSw]
            simp (disch := first | assumption | omega | (simp (disch := omega) only [gU_row, gU_same, gU_i, gCp_row] <;> omega)) only [e_X4_parseClause, s_X4_parseClause_0, s_X4_parseClause_1, s_X4_parseClause_4, s_X4_parseClause_5, s_X4_parseClause_8, s_X4_parseClause_11, s_X4_parseClause_12, s_X4_parseClause_15, s_X4_parseClause_16, s_X4_parseClause_19, s_X4_parseClause_20, s_X4_parseClause_23, s_X4_parseClause_26, s_X4_parseClause_28, s_X4_parseClause_29, s_X4_parseClause_30, s_X4_parseClause_33, s_X4_parseClause_36, s_X4_parseClause_37, s_X4_parseClause_38, s_X4_parseClause_39, s_X4_parseClause_42, s_X4_parseClause_43, s_X4_parseClause_44, s_X4_parseClause_47, s_X4_parseClause_48, s_X4_parseClause_51, s_X4_parseClause_52, s_X4_parseClause_53, s_X4_parseClause_54, s_X4_parseClause_55, s_X4_parseClause_58, s_X4_parseClause_59, s_X4_parseClause_60, s_X4_parseClause_63, s_X4_parseClause_64, s_X4_parseClause_65, s_X4_parseClause_66, s_X4_parseClause_68, s_X4_parseClause_69, s_X4_parseClause_73, s_X4_parseClause_74, s_X4_parseClause_77, s_X4_parseClause_80, s_X4_parseClause_81, s_X4_parseClause_83, s_X4_parseClause_86, s_X4_parseClause_88, s_X4_parseClause_90, s_X4_parseClause_92, s_X4_parseClause_95, s_X4_parseClause_96, s_X4_parseClause_98, s_X4_parseClause_101, s_X4_parseClause_103, s_X4_parseClause_106, s_X4_parseClause_108, s_X4_parseClause_110, s_X4_parseClause_113, s_X4_parseClause_114, s_X4_parseClause_116, s_X4_parseClause_119, s_X4_parseClause_122, s_X4_parseClause_123, s_X4_parseClause_124, s_X4_parseClause_125, s_X4_parseClause_127, s_X4_parseClause_129, s_X4_parseClause_130, s_X4_parseClause_133, s_X4_parseClause_135, s_X4_parseClause_137, s_X4_parseClause_140, s_X4_parseClause_141, s_X4_parseClause_143, s_X4_parseClause_146, s_X4_parseClause_147, s_X4_parseClause_148, s_X4_parseClause_149, s_X4_parseClause_152, s_X4_parseClause_153, s_X4_parseClause_154, s_X4_parseClause_155, s_X4_parseClause_157, s_X4_parseClause_160, s_X4_parseClause_162, s_X4_parseClause_163, s_X4_parseClause_166, s_X4_parseClause_168, s_X4_parseClause_169, s_X4_parseClause_172, s_X4_parseClause_173, s_X4_parseClause_175, s_X4_parseClause_178, s_X4_parseClause_181, s_X4_parseClause_182, ↓reduceIte, Option.toList_some, Option.toList_none, List.cons_append, List.nil_append, List.singleton_append, List.append_nil, true_and, and_true, true_or, or_true, andT, iteT, iteF, itT, itF, zS_188, zP_188_4, zS_201, zS_m12, ep, e2, e4, hform, ke]
            exact hk m FrC_refl ep (fun h => by cases h) (Or.inl rfl) p0 p1
  · have hp : pcl S p = (0, p, fun _ => 0) := by unfold pcl; rw [if_neg (fun h' => h h'.1)]
    rw [hp] at hk
    simp (disch := first | assumption | omega | (simp (disch := omega) only [gU_row, gU_same, gU_i, gCp_row] <;> omega)) only [e_X4_parseClause, s_X4_parseClause_0, s_X4_parseClause_1, s_X4_parseClause_4, s_X4_parseClause_5, s_X4_parseClause_8, s_X4_parseClause_11, s_X4_parseClause_12, s_X4_parseClause_15, s_X4_parseClause_16, s_X4_parseClause_19, s_X4_parseClause_20, s_X4_parseClause_23, s_X4_parseClause_26, s_X4_parseClause_28, s_X4_parseClause_29, s_X4_parseClause_30, s_X4_parseClause_33, s_X4_parseClause_36, s_X4_parseClause_37, s_X4_parseClause_38, s_X4_parseClause_39, s_X4_parseClause_42, s_X4_parseClause_43, s_X4_parseClause_44, s_X4_parseClause_47, s_X4_parseClause_48, s_X4_parseClause_51, s_X4_parseClause_52, s_X4_parseClause_53, s_X4_parseClause_54, s_X4_parseClause_55, s_X4_parseClause_58, s_X4_parseClause_59, s_X4_parseClause_60, s_X4_parseClause_63, s_X4_parseClause_64, s_X4_parseClause_65, s_X4_parseClause_66, s_X4_parseClause_68, s_X4_parseClause_69, s_X4_parseClause_73, s_X4_parseClause_74, s_X4_parseClause_77, s_X4_parseClause_80, s_X4_parseClause_81, s_X4_parseClause_83, s_X4_parseClause_86, s_X4_parseClause_88, s_X4_parseClause_90, s_X4_parseClause_92, s_X4_parseClause_95, s_X4_parseClause_96, s_X4_parseClause_98, s_X4_parseClause_101, s_X4_parseClause_103, s_X4_parseClause_106, s_X4_parseClause_108, s_X4_parseClause_110, s_X4_parseClause_113, s_X4_parseClause_114, s_X4_parseClause_116, s_X4_parseClause_119, s_X4_parseClause_122, s_X4_parseClause_123, s_X4_parseClause_124, s_X4_parseClause_125, s_X4_parseClause_127, s_X4_parseClause_129, s_X4_parseClause_130, s_X4_parseClause_133, s_X4_parseClause_135, s_X4_parseClause_137, s_X4_parseClause_140, s_X4_parseClause_141, s_X4_parseClause_143, s_X4_parseClause_146, s_X4_parseClause_147, s_X4_parseClause_148, s_X4_parseClause_149, s_X4_parseClause_152, s_X4_parseClause_153, s_X4_parseClause_154, s_X4_parseClause_155, s_X4_parseClause_157, s_X4_parseClause_160, s_X4_parseClause_162, s_X4_parseClause_163, s_X4_parseClause_166, s_X4_parseClause_168, s_X4_parseClause_169, s_X4_parseClause_172, s_X4_parseClause_173, s_X4_parseClause_175, s_X4_parseClause_178, s_X4_parseClause_181, s_X4_parseClause_182, ↓reduceIte, Option.toList_some, Option.toList_none, List.cons_append, List.nil_append, List.singleton_append, List.append_nil, true_and, and_true, true_or, or_true, andT, iteT, iteF, itT, itF, zS_188, zP_188_4, zS_m12, ep, e2, ke]
    exact hk m FrC_refl ep (fun h => by cases h) (Or.inl rfl) p0 p1
end PARSE3
def prs (S : TX) : Nat → Int → Int × List (Int × (Int → Int))
  | 0, p => (p, [])
  | k + 1, p => if (pcl S p).1 = 0 then ((pcl S p).2.1, []) else if (pcl S p).2.1 < S.1 then (if k = 0 ∨ S.2 (pcl S p).2.1 ≠ 59 then ((pcl S p).2.1, []) else ((prs S k ((pcl S p).2.1 + 1)).1, (S.2 p, (pcl S p).2.2) :: (prs S k ((pcl S p).2.1 + 1)).2)) else (-1, [(S.2 p, (pcl S p).2.2)])
def ClC (m : gM) : Int → List (Int × (Int → Int)) → Prop
  | _, [] => True
  | i, a :: l => (m 189 i = a.1 ∧ ∀ q, 0 ≤ q → q < cnt (fm a.1) → m (191 + i) q = a.2 q) ∧ ClC m (i + 1) l
def FrP (i : Int) (m m' : gM) : Prop := ∀ a j, (a = 188 → j ≠ 1 ∧ j ≠ 5) → (a = 189 → j < i) → (a < 191 + i ∨ 200 < a) → m' a j = m a j
section PARSE4
variable {L d N : Nat} {z X Y q r v t c n j e s o u x y i p : Int} {w : gW} {m m' : gM} {S : TX} {xs : Int → Int} {K : Option gV → gW → gM → Prop}
theorem FrP_of {m1 : gM} {v1 v2 : Int} (h1 : FrC i m m1) (h0 : 0 ≤ i) (h9 : i ≤ 9) (h2 : FrP (i + 1) (gU (gU m1 188 1 v1) 188 5 v2) m') : FrP i m m' := fun a j g1 g2 g3 => by
  rw [h2 a j g1 (fun h => by have := g2 h; omega) (by omega)]
  by_cases h : a = 188
  · have := g1 h
    rw [h, gU_ne (by omega), gU_ne (by omega)]
    exact h1 188 j (by omega) (by omega) (by omega)
  · rw [gU_row h, gU_row h]
    exact h1 a j (fun h' => absurd h' h) (fun h' => by have := g2 h'; omega) (by omega)
theorem FrP_of1 {m1 : gM} {v1 : Int} (h1 : FrC i m m1) (h0 : 0 ≤ i) (hi : i ≤ 9) : FrP i m (gU m1 188 1 v1) := fun a j g1 g2 g3 => by
  by_cases h : a = 188
  · have := g1 h
    rw [h, gU_ne (by omega)]
    exact h1 188 j (by omega) (by omega) (by omega)
  · rw [gU_row h]
    exact h1 a j (fun h' => absurd h' h) (fun h' => by have := g2 h'; omega) (by omega)
theorem FrP_of0 {m1 : gM} (h1 : FrC i m m1) (h0 : 0 ≤ i) (hi : i ≤ 9) : FrP i m m1 := fun a j g1 g2 g3 => by
  refine h1 a j (fun h => (g1 h).2) (fun h => by have := g2 h; omega) (by omega)
theorem FrP_St (h : FrP i m m') (h0 : 0 ≤ i) (hst : St xs m) : St xs m' := fun a ha => by
  rw [← hst a ha]
  funext j
  exact h a j (by omega) (by omega) (by omega)
theorem FrC_St (h : FrC i m m') (h0 : 0 ≤ i) (hst : St xs m) : St xs m' := fun a ha => by
  rw [← hst a ha]
  funext j
  exact h a j (by omega) (by omega) (by omega)
set_option maxHeartbeats 1000000 in
theorem c_parse_lp (ho : TXo S) : ∀ (k : Nat) (i p : Int) (mm : gM) (K : Option gV → gW → gM → Prop), i + k = 10 → 1 ≤ k → 0 ≤ i → St xs mm → TXc mm S → mm 188 5 = p → mm 188 1 = i → 0 ≤ p → p ≤ S.1 → (∀ m', FrP i mm m' → ((prs S k p).1 = -1 → m' 188 1 = i + ((prs S k p).2.length : Int) ∧ ClC m' i (prs S k p).2) → -1 ≤ (prs S k p).1 → (prs S k p).1 ≤ 100 → K (some (0, (prs S k p).1)) (w0 L z X Y) m') → R (d + 5) M_X4_parse 12 [(2, 188), (0, i)] [] (w0 L z X Y) mm K := by
  have o1 := ho.1
  intro k
  induction k with
  | zero => intros; omega
  | succ k ih =>
    intro i p mm K hi hk1 hi0 hst hS ep ec p0 p1 hk
    have e2 := hS.1
    rw [s_X4_parse_12]
    simp (disch := first | assumption | omega | (simp (disch := omega) only [gU_row, gU_same, gU_i, gCp_row] <;> omega)) only [e_X4_parse, s_X4_parse_0, s_X4_parse_1, s_X4_parse_2, s_X4_parse_5, s_X4_parse_6, s_X4_parse_7, s_X4_parse_10, s_X4_parse_11, s_X4_parse_13, s_X4_parse_15, s_X4_parse_18, s_X4_parse_19, s_X4_parse_20, s_X4_parse_23, s_X4_parse_26, s_X4_parse_27, s_X4_parse_30, s_X4_parse_31, s_X4_parse_32, s_X4_parse_33, s_X4_parse_36, s_X4_parse_37, s_X4_parse_38, s_X4_parse_41, s_X4_parse_42, s_X4_parse_45, s_X4_parse_46, s_X4_parse_49, s_X4_parse_52, s_X4_parse_53, s_X4_parse_54, s_X4_parse_55, s_X4_parse_58, s_X4_parse_60, s_X4_parse_63, s_X4_parse_64, s_X4_parse_66, s_X4_parse_69, s_X4_parse_72, s_X4_parse_73, s_X4_parse_76, s_X4_parse_77, s_X4_parse_80, s_X4_parse_83, s_X4_parse_84, s_X4_parse_87, ↓reduceIte, Option.toList_some, Option.toList_none, List.cons_append, List.nil_append, List.singleton_append, List.append_nil, true_and, and_true, true_or, or_true, andT, iteT, iteF, itT, itF, zS_188]
    refine c_clause (c := i) hst ho ⟨hi0, by omega⟩ hS ep p0 p1 (fun m1 f1 f2 f3 f4 f5 f6 => ?_)
    have hS1 : TXc m1 S := FrC_TX f1 (by omega) hS
    have hst1 := FrC_St f1 hi0 hst
    have g2 := hS1.1
    have g3 : m1 188 1 = i := by rw [f1 188 1 (by omega) (by omega) (by omega)]; exact ec
    rw [prs] at hk
    generalize pcl S p = P at f2 f3 f4 f5 f6 hk
    obtain ⟨t, p', g⟩ := P
    have f2 : m1 188 5 = p' := f2
    have f3 : t = 1 → m1 189 i = S.2 p ∧ ∀ q, 0 ≤ q → q < cnt (fm (S.2 p)) → m1 (191 + i) q = g q := f3
    have f4 : t = 0 ∨ t = 1 := f4
    have f5 : 0 ≤ p' := f5
    have f6 : p' ≤ S.1 := f6
    by_cases h0 : t = 0
    · rw [if_pos h0] at hk
      show R _ _ _ _ [(0, t)] _ _ _
      subst h0
      simp (disch := first | assumption | omega | (simp (disch := omega) only [gU_row, gU_same, gU_i, gCp_row] <;> omega)) only [e_X4_parse, s_X4_parse_0, s_X4_parse_1, s_X4_parse_2, s_X4_parse_5, s_X4_parse_6, s_X4_parse_7, s_X4_parse_10, s_X4_parse_11, s_X4_parse_13, s_X4_parse_15, s_X4_parse_18, s_X4_parse_19, s_X4_parse_20, s_X4_parse_23, s_X4_parse_26, s_X4_parse_27, s_X4_parse_30, s_X4_parse_31, s_X4_parse_32, s_X4_parse_33, s_X4_parse_36, s_X4_parse_37, s_X4_parse_38, s_X4_parse_41, s_X4_parse_42, s_X4_parse_45, s_X4_parse_46, s_X4_parse_49, s_X4_parse_52, s_X4_parse_53, s_X4_parse_54, s_X4_parse_55, s_X4_parse_58, s_X4_parse_60, s_X4_parse_63, s_X4_parse_64, s_X4_parse_66, s_X4_parse_69, s_X4_parse_72, s_X4_parse_73, s_X4_parse_76, s_X4_parse_77, s_X4_parse_80, s_X4_parse_83, s_X4_parse_84, s_X4_parse_87, ↓reduceIte, Option.toList_some, Option.toList_none, List.cons_append, List.nil_append, List.singleton_append, List.append_nil, true_and, and_true, true_or, or_true, andT, iteT, iteF, itT, itF, zS_188, f2]
      exact hk m1 (FrP_of0 f1 hi0 (by omega)) (fun h => by have : p' = -1 := h; omega) (by show -1 ≤ p'; omega) (by show p' ≤ 100; omega)
    · have h1 : t = 1 := by omega
      rw [if_neg h0] at hk
      have f9 := f3 h1
      show R _ _ _ _ [(0, t)] _ _ _
      subst h1
      dsimp only at hk
      have q5 : ∀ v, gU m1 188 1 v 188 5 = p' := fun v => by rw [gU_ne (by omega)]; exact f2
      have q0 : ∀ v, gU m1 188 1 v 188 0 = S.1 := fun v => by rw [gU_ne (by omega)]; exact g2
      have q1 : ∀ v, gU m1 188 1 v 188 1 = v := fun v => gU_same ..
      by_cases h2 : p' < S.1
      · rw [if_pos h2] at hk
        by_cases h3 : k = 0
        · rw [if_pos (Or.inl h3)] at hk
          have h4 : i + 1 = 10 := by omega
          simp (disch := first | assumption | omega | (simp (disch := omega) only [gU_row, gU_same, gU_i, gCp_row] <;> omega)) only [e_X4_parse, s_X4_parse_0, s_X4_parse_1, s_X4_parse_2, s_X4_parse_5, s_X4_parse_6, s_X4_parse_7, s_X4_parse_10, s_X4_parse_11, s_X4_parse_13, s_X4_parse_15, s_X4_parse_18, s_X4_parse_19, s_X4_parse_20, s_X4_parse_23, s_X4_parse_26, s_X4_parse_27, s_X4_parse_30, s_X4_parse_31, s_X4_parse_32, s_X4_parse_33, s_X4_parse_36, s_X4_parse_37, s_X4_parse_38, s_X4_parse_41, s_X4_parse_42, s_X4_parse_45, s_X4_parse_46, s_X4_parse_49, s_X4_parse_52, s_X4_parse_53, s_X4_parse_54, s_X4_parse_55, s_X4_parse_58, s_X4_parse_60, s_X4_parse_63, s_X4_parse_64, s_X4_parse_66, s_X4_parse_69, s_X4_parse_72, s_X4_parse_73, s_X4_parse_76, s_X4_parse_77, s_X4_parse_80, s_X4_parse_83, s_X4_parse_84, s_X4_parse_87, ↓reduceIte, Option.toList_some, Option.toList_none, List.cons_append, List.nil_append, List.singleton_append, List.append_nil, true_and, and_true, true_or, or_true, andT, iteT, iteF, itT, itF, zS_188, f2, g2, g3, q0, q5, q1, iadd_ok, h4]
          exact hk _ (FrP_of1 f1 (by omega) (by omega)) (fun h => by have : p' = -1 := h; omega) (by show -1 ≤ p'; omega) (by show p' ≤ 100; omega)
        · have e5 := hS1.2 p' f5 h2
          by_cases h4 : S.2 p' = 59
          · rw [if_neg (by omega)] at hk
            have ks : ∀ K : Option gV → gW → gM → Prop, C (d + 5) M_X4_skip [(2, 188), (0, 59)] (w0 L z X Y) (gU m1 188 1 (i + 1)) K = K (some (0, 1)) (w0 L z X Y) (gU (gU m1 188 1 (i + 1)) 188 5 (p' + 1)) := fun K => by
              have := c_skip_T (L := L) (z := z) (X := X) (Y := Y) (c := 59) (d := d + 4) (m := gU m1 188 1 (i + 1)) (K := K) (by rw [q5, q0]; omega) (by rw [q5]; omega) (by rw [q0]; omega) (by rw [q5, gU_row (by omega), e5]; exact h4)
              rw [q5] at this; exact this
            have e6 : ¬ i + 1 = 10 := by omega
            simp (disch := first | assumption | omega | (simp (disch := omega) only [gU_row, gU_same, gU_i, gCp_row] <;> omega)) only [e_X4_parse, s_X4_parse_0, s_X4_parse_1, s_X4_parse_2, s_X4_parse_5, s_X4_parse_6, s_X4_parse_7, s_X4_parse_10, s_X4_parse_11, s_X4_parse_13, s_X4_parse_15, s_X4_parse_18, s_X4_parse_19, s_X4_parse_20, s_X4_parse_23, s_X4_parse_26, s_X4_parse_27, s_X4_parse_30, s_X4_parse_31, s_X4_parse_32, s_X4_parse_33, s_X4_parse_36, s_X4_parse_37, s_X4_parse_38, s_X4_parse_41, s_X4_parse_42, s_X4_parse_45, s_X4_parse_46, s_X4_parse_49, s_X4_parse_52, s_X4_parse_53, s_X4_parse_54, s_X4_parse_55, s_X4_parse_58, s_X4_parse_60, s_X4_parse_63, s_X4_parse_64, s_X4_parse_66, s_X4_parse_69, s_X4_parse_72, s_X4_parse_73, s_X4_parse_76, s_X4_parse_77, s_X4_parse_80, s_X4_parse_83, s_X4_parse_84, s_X4_parse_87, ↓reduceIte, Option.toList_some, Option.toList_none, List.cons_append, List.nil_append, List.singleton_append, List.append_nil, true_and, and_true, true_or, or_true, andT, iteT, iteF, itT, itF, zS_188, f2, g2, g3, q0, q5, q1, iadd_ok, ks, e6]
            refine ih (i + 1) (p' + 1) _ K (by omega) (by omega) (by omega) ?_ ⟨?_, fun j j0 j1 => ?_⟩ (gU_same ..) ?_ (by omega) (by omega) (fun m' u1 u2 u3 u4 => ?_)
            · exact fun a ha => by rw [gU_row (by omega), gU_row (by omega)]; exact hst1 a ha
            · rw [gU_ne (by omega), gU_ne (by omega)]; exact g2
            · rw [gU_row (by omega), gU_row (by omega)]; exact hS1.2 j j0 j1
            · rw [gU_ne (by omega)]; exact gU_same ..
            · refine hk m' (FrP_of f1 hi0 (by omega) u1) (fun h => ?_) u3 u4
              have u2 := u2 h
              refine ⟨?_, ⟨?_, fun q q2 q3 => ?_⟩, u2.2⟩
              · rw [u2.1]; show _ = i + ((List.length (_ :: _) : Nat) : Int); rw [List.length_cons]; omega
              · rw [u1 189 i (by omega) (by omega) (by omega), gU_row (by omega), gU_row (by omega)]; exact f9.1
              · rw [u1 (191 + i) q (by omega) (by omega) (by omega), gU_row (by omega), gU_row (by omega)]; exact f9.2 q q2 q3
          · rw [if_pos (Or.inr h4)] at hk
            have ks : ∀ K : Option gV → gW → gM → Prop, C (d + 5) M_X4_skip [(2, 188), (0, 59)] (w0 L z X Y) (gU m1 188 1 (i + 1)) K = K (some (0, 0)) (w0 L z X Y) (gU m1 188 1 (i + 1)) := fun K => c_skip_F (by rw [q5]; omega) (by rw [q0]; omega) (by rw [q5, q0, gU_row (by omega), e5]; intro h; exact h4 h.2)
            have e6 : ¬ i + 1 = 10 := by omega
            simp (disch := first | assumption | omega | (simp (disch := omega) only [gU_row, gU_same, gU_i, gCp_row] <;> omega)) only [e_X4_parse, s_X4_parse_0, s_X4_parse_1, s_X4_parse_2, s_X4_parse_5, s_X4_parse_6, s_X4_parse_7, s_X4_parse_10, s_X4_parse_11, s_X4_parse_13, s_X4_parse_15, s_X4_parse_18, s_X4_parse_19, s_X4_parse_20, s_X4_parse_23, s_X4_parse_26, s_X4_parse_27, s_X4_parse_30, s_X4_parse_31, s_X4_parse_32, s_X4_parse_33, s_X4_parse_36, s_X4_parse_37, s_X4_parse_38, s_X4_parse_41, s_X4_parse_42, s_X4_parse_45, s_X4_parse_46, s_X4_parse_49, s_X4_parse_52, s_X4_parse_53, s_X4_parse_54, s_X4_parse_55, s_X4_parse_58, s_X4_parse_60, s_X4_parse_63, s_X4_parse_64, s_X4_parse_66, s_X4_parse_69, s_X4_parse_72, s_X4_parse_73, s_X4_parse_76, s_X4_parse_77, s_X4_parse_80, s_X4_parse_83, s_X4_parse_84, s_X4_parse_87, ↓reduceIte, Option.toList_some, Option.toList_none, List.cons_append, List.nil_append, List.singleton_append, List.append_nil, true_and, and_true, true_or, or_true, andT, iteT, iteF, itT, itF, zS_188, f2, g2, g3, q0, q5, q1, iadd_ok, ks, e6]
            exact hk _ (FrP_of1 f1 hi0 (by omega)) (fun h => by have : p' = -1 := h; omega) (by show -1 ≤ p'; omega) (by show p' ≤ 100; omega)
      · rw [if_neg h2] at hk
        simp (disch := first | assumption | omega | (simp (disch := omega) only [gU_row, gU_same, gU_i, gCp_row] <;> omega)) only [e_X4_parse, s_X4_parse_0, s_X4_parse_1, s_X4_parse_2, s_X4_parse_5, s_X4_parse_6, s_X4_parse_7, s_X4_parse_10, s_X4_parse_11, s_X4_parse_13, s_X4_parse_15, s_X4_parse_18, s_X4_parse_19, s_X4_parse_20, s_X4_parse_23, s_X4_parse_26, s_X4_parse_27, s_X4_parse_30, s_X4_parse_31, s_X4_parse_32, s_X4_parse_33, s_X4_parse_36, s_X4_parse_37, s_X4_parse_38, s_X4_parse_41, s_X4_parse_42, s_X4_parse_45, s_X4_parse_46, s_X4_parse_49, s_X4_parse_52, s_X4_parse_53, s_X4_parse_54, s_X4_parse_55, s_X4_parse_58, s_X4_parse_60, s_X4_parse_63, s_X4_parse_64, s_X4_parse_66, s_X4_parse_69, s_X4_parse_72, s_X4_parse_73, s_X4_parse_76, s_X4_parse_77, s_X4_parse_80, s_X4_parse_83, s_X4_parse_84, s_X4_parse_87, ↓reduceIte, Option.toList_some, Option.toList_none, List.cons_append, List.nil_append, List.singleton_append, List.append_nil, true_and, and_true, true_or, or_true, andT, iteT, iteF, itT, itF, zS_188, f2, g2, g3, q0, q5, q1, iadd_ok]
        refine hk _ (FrP_of1 f1 hi0 (by omega)) (fun _ => ⟨gU_same .., ⟨?_, fun q q2 q3 => ?_⟩, trivial⟩) (by show (-1 : Int) ≤ -1; omega) (by show (-1 : Int) ≤ 100; omega)
        · rw [gU_row (by omega)]; exact f9.1
        · rw [gU_row (by omega)]; exact f9.2 q q2 q3
theorem c_parse (hst : St xs m) (ho : TXo S) (hS : TXc m S) (hk : ∀ m', FrP 0 m m' → ((prs S 10 0).1 = -1 → m' 188 1 = ((prs S 10 0).2.length : Int) ∧ ClC m' 0 (prs S 10 0).2) → -1 ≤ (prs S 10 0).1 → (prs S 10 0).1 ≤ 100 → K (some (0, (prs S 10 0).1)) (w0 L z X Y) m') : C (d + 6) M_X4_parse [(2, 188)] (w0 L z X Y) m K := by
  have o1 := ho.1
  have main : R (d + 5) M_X4_parse 12 [(2, 188), (0, 0)] [] (w0 L z X Y) (gU (gU m 188 5 0) 188 1 0) K := by
    refine c_parse_lp (xs := xs) ho 10 0 0 _ K (by omega) (by omega) (by omega) ?_ ⟨?_, fun j j0 j1 => ?_⟩ ?_ (gU_same ..) (by omega) (by omega) (fun m' u1 u2 u3 u4 => ?_)
    · exact fun a ha => by rw [gU_row (by omega), gU_row (by omega)]; exact hst a ha
    · rw [gU_ne (by omega), gU_ne (by omega)]; exact hS.1
    · rw [gU_row (by omega), gU_row (by omega)]; exact hS.2 j j0 j1
    · rw [gU_ne (by omega)]; exact gU_same ..
    · refine hk m' (fun a j g1 g2 g3 => ?_) (fun h => ⟨by rw [(u2 h).1]; omega, (u2 h).2⟩) u3 u4
      rw [u1 a j g1 g2 g3]
      by_cases h : a = 188
      · have := g1 h
        rw [h, gU_ne (by omega), gU_ne (by omega)]
      · rw [gU_row h, gU_row h]
  simp (disch := first | assumption | omega | (simp (disch := omega) only [gU_row, gU_same, gU_i, gCp_row] <;> omega)) only [e_X4_parse, s_X4_parse_0, s_X4_parse_1, s_X4_parse_2, s_X4_parse_5, s_X4_parse_6, s_X4_parse_7, s_X4_parse_10, s_X4_parse_11, s_X4_parse_13, s_X4_parse_15, s_X4_parse_18, s_X4_parse_19, s_X4_parse_20, s_X4_parse_23, s_X4_parse_26, s_X4_parse_27, s_X4_parse_30, s_X4_parse_31, s_X4_parse_32, s_X4_parse_33, s_X4_parse_36, s_X4_parse_37, s_X4_parse_38, s_X4_parse_41, s_X4_parse_42, s_X4_parse_45, s_X4_parse_46, s_X4_parse_49, s_X4_parse_52, s_X4_parse_53, s_X4_parse_54, s_X4_parse_55, s_X4_parse_58, s_X4_parse_60, s_X4_parse_63, s_X4_parse_64, s_X4_parse_66, s_X4_parse_69, s_X4_parse_72, s_X4_parse_73, s_X4_parse_76, s_X4_parse_77, s_X4_parse_80, s_X4_parse_83, s_X4_parse_84, s_X4_parse_87, ↓reduceIte, Option.toList_some, Option.toList_none, List.cons_append, List.nil_append, List.singleton_append, List.append_nil, true_and, and_true, true_or, or_true, andT, iteT, iteF, itT, itF, zS_188]
  exact main
end PARSE4
