/-! THE LAW: a case each, the loop. -/
section LAW
variable {L d : Nat} {z X Y i : Int} {m : gM} {b kb : Bk} {T : T3} {S : TX} {xs : Int → Int} {K : Option gV → gW → gM → Prop}
set_option maxHeartbeats 400000 in
theorem lw_0 [NeZero (z % 2)] (hL : LIx xs m X Y b kb T S) (i0 : 0 ≤ i) (i7 : i + 7 ≤ L) (l9 : (L : Int) ≤ 2147483647) (hox : ∀ j, okI (xs j)) (nxt : ∀ m' X' Y', LI xs m' X' Y' → R (d + 70) M_L_law 1472 [(2, -2), (2, 0), (2, 213), (0, i)] [] (w0 L z X' Y') m' K) : R (d + 70) M_L_law 192 [(2, -2), (2, 0), (2, 213), (0, i)] [] (w0 L z X Y) m K := by
  have hL' := hL
  obtain ⟨hc, hm, hG, ⟨q1, q2, q3⟩, ⟨t1, t2, t3⟩, s1, s2, s3⟩ := hL'
  have hst := hc.2.2.2.2.2
  have hx : ∀ j, m (-2) j = xs j := fun j => by rw [hst (-2) (by omega)]; rfl
  rw [s_L_law_192]
  simp (disch := first | assumption | omega | (simp (disch := omega) only [gU_row, gU_same, gU_i, gCp_row] <;> omega)) only [↓reduceIte, Option.toList_some, Option.toList_none, List.cons_append, List.nil_append, List.singleton_append, List.append_nil, true_and, and_true, true_or, or_true, andT, iteT, iteF, itT, itF, s_L_law_192, s_L_law_193, s_L_law_194, s_L_law_195, s_L_law_196, s_L_law_197, s_L_law_198, s_L_law_199, s_L_law_200, s_L_law_201, s_L_law_202, s_L_law_203, s_L_law_204, s_L_law_205, s_L_law_206, s_L_law_207, s_L_law_208, s_L_law_211, s_L_law_212, s_L_law_213, s_L_law_214, s_L_law_215, s_L_law_216, s_L_law_217, s_L_law_218, s_L_law_219, s_L_law_220, s_L_law_221, s_L_law_222, s_L_law_223, s_L_law_224, s_L_law_225, s_L_law_226, s_L_law_227, s_L_law_230, s_L_law_233, s_L_law_234, zS_m2, zS_0, hx, iadd_ok]
  refine p_ground hc hG (fun m1 X1 Y1 c1 f1 => ?_)
  have hx1 : ∀ j, m1 (-2) j = xs j := fun j => by rw [c1.2.2.2.2.2 (-2) (by omega)]; rfl
  simp (disch := first | assumption | omega | (simp (disch := omega) only [gU_row, gU_same, gU_i, gCp_row] <;> omega)) only [↓reduceIte, Option.toList_some, Option.toList_none, List.cons_append, List.nil_append, List.singleton_append, List.append_nil, true_and, and_true, true_or, or_true, andT, iteT, iteF, itT, itF, s_L_law_192, s_L_law_193, s_L_law_194, s_L_law_195, s_L_law_196, s_L_law_197, s_L_law_198, s_L_law_199, s_L_law_200, s_L_law_201, s_L_law_202, s_L_law_203, s_L_law_204, s_L_law_205, s_L_law_206, s_L_law_207, s_L_law_208, s_L_law_211, s_L_law_212, s_L_law_213, s_L_law_214, s_L_law_215, s_L_law_216, s_L_law_217, s_L_law_218, s_L_law_219, s_L_law_220, s_L_law_221, s_L_law_222, s_L_law_223, s_L_law_224, s_L_law_225, s_L_law_226, s_L_law_227, s_L_law_230, s_L_law_233, s_L_law_234, zS_m2, zS_213, hx1, iadd_ok, lcmp_eq]
  refine r_ground (MI_K hm f1) hG (fun m2 i2 f2 => ?_)
  have hx2 : ∀ j, m2 (-2) j = xs j := fun j => by rw [f2.1 (-2) (by omega)]; exact hx1 j
  simp (disch := first | assumption | omega | (simp (disch := omega) only [gU_row, gU_same, gU_i, gCp_row] <;> omega)) only [↓reduceIte, Option.toList_some, Option.toList_none, List.cons_append, List.nil_append, List.singleton_append, List.append_nil, true_and, and_true, true_or, or_true, andT, iteT, iteF, itT, itF, s_L_law_192, s_L_law_193, s_L_law_194, s_L_law_195, s_L_law_196, s_L_law_197, s_L_law_198, s_L_law_199, s_L_law_200, s_L_law_201, s_L_law_202, s_L_law_203, s_L_law_204, s_L_law_205, s_L_law_206, s_L_law_207, s_L_law_208, s_L_law_211, s_L_law_212, s_L_law_213, s_L_law_214, s_L_law_215, s_L_law_216, s_L_law_217, s_L_law_218, s_L_law_219, s_L_law_220, s_L_law_221, s_L_law_222, s_L_law_223, s_L_law_224, s_L_law_225, s_L_law_226, s_L_law_227, s_L_law_230, s_L_law_233, s_L_law_234, zS_m2, zS_213, hx2, iadd_ok, lcmp_eq]
  exact nxt m2 X1 Y1 (LI_1 hL c1 f1 i2 f2 (GB_ground hG))
set_option maxHeartbeats 400000 in
theorem lw_1 [NeZero (z % 2)] (hL : LIx xs m X Y b kb T S) (i0 : 0 ≤ i) (i7 : i + 7 ≤ L) (l9 : (L : Int) ≤ 2147483647) (hox : ∀ j, okI (xs j)) (nxt : ∀ m' X' Y', LI xs m' X' Y' → R (d + 70) M_L_law 1472 [(2, -2), (2, 0), (2, 213), (0, i)] [] (w0 L z X' Y') m' K) : R (d + 70) M_L_law 235 [(2, -2), (2, 0), (2, 213), (0, i)] [] (w0 L z X Y) m K := by
  have hL' := hL
  obtain ⟨hc, hm, hG, ⟨q1, q2, q3⟩, ⟨t1, t2, t3⟩, s1, s2, s3⟩ := hL'
  have hst := hc.2.2.2.2.2
  have hx : ∀ j, m (-2) j = xs j := fun j => by rw [hst (-2) (by omega)]; rfl
  rw [s_L_law_235]
  simp (disch := first | assumption | omega | (simp (disch := omega) only [gU_row, gU_same, gU_i, gCp_row] <;> omega)) only [↓reduceIte, Option.toList_some, Option.toList_none, List.cons_append, List.nil_append, List.singleton_append, List.append_nil, true_and, and_true, true_or, or_true, andT, iteT, iteF, itT, itF, s_L_law_235, s_L_law_236, s_L_law_237, s_L_law_238, s_L_law_239, s_L_law_240, s_L_law_241, s_L_law_242, s_L_law_243, s_L_law_244, s_L_law_245, s_L_law_246, s_L_law_249, s_L_law_250, s_L_law_251, s_L_law_252, s_L_law_253, s_L_law_254, s_L_law_255, s_L_law_256, s_L_law_257, s_L_law_258, s_L_law_259, s_L_law_260, s_L_law_263, s_L_law_266, s_L_law_267, zS_m2, zS_0, hx, iadd_ok]
  refine p_groundOf hc ?_
  simp (disch := first | assumption | omega | (simp (disch := omega) only [gU_row, gU_same, gU_i, gCp_row] <;> omega)) only [↓reduceIte, Option.toList_some, Option.toList_none, List.cons_append, List.nil_append, List.singleton_append, List.append_nil, true_and, and_true, true_or, or_true, andT, iteT, iteF, itT, itF, s_L_law_235, s_L_law_236, s_L_law_237, s_L_law_238, s_L_law_239, s_L_law_240, s_L_law_241, s_L_law_242, s_L_law_243, s_L_law_244, s_L_law_245, s_L_law_246, s_L_law_249, s_L_law_250, s_L_law_251, s_L_law_252, s_L_law_253, s_L_law_254, s_L_law_255, s_L_law_256, s_L_law_257, s_L_law_258, s_L_law_259, s_L_law_260, s_L_law_263, s_L_law_266, s_L_law_267, zS_m2, zS_213, hx, iadd_ok, lcmp_eq]
  refine r_groundOf hm hG ?_
  simp (disch := first | assumption | omega | (simp (disch := omega) only [gU_row, gU_same, gU_i, gCp_row] <;> omega)) only [↓reduceIte, Option.toList_some, Option.toList_none, List.cons_append, List.nil_append, List.singleton_append, List.append_nil, true_and, and_true, true_or, or_true, andT, iteT, iteF, itT, itF, s_L_law_235, s_L_law_236, s_L_law_237, s_L_law_238, s_L_law_239, s_L_law_240, s_L_law_241, s_L_law_242, s_L_law_243, s_L_law_244, s_L_law_245, s_L_law_246, s_L_law_249, s_L_law_250, s_L_law_251, s_L_law_252, s_L_law_253, s_L_law_254, s_L_law_255, s_L_law_256, s_L_law_257, s_L_law_258, s_L_law_259, s_L_law_260, s_L_law_263, s_L_law_266, s_L_law_267, zS_m2, zS_213, hx, iadd_ok, lcmp_eq]
  exact nxt m X Y ⟨b, kb, T, S, hL⟩
set_option maxHeartbeats 400000 in
theorem lw_2 [NeZero (z % 2)] (hL : LIx xs m X Y b kb T S) (i0 : 0 ≤ i) (i7 : i + 7 ≤ L) (l9 : (L : Int) ≤ 2147483647) (hox : ∀ j, okI (xs j)) (nxt : ∀ m' X' Y', LI xs m' X' Y' → R (d + 70) M_L_law 1472 [(2, -2), (2, 0), (2, 213), (0, i)] [] (w0 L z X' Y') m' K) : R (d + 70) M_L_law 268 [(2, -2), (2, 0), (2, 213), (0, i)] [] (w0 L z X Y) m K := by
  have hL' := hL
  obtain ⟨hc, hm, hG, ⟨q1, q2, q3⟩, ⟨t1, t2, t3⟩, s1, s2, s3⟩ := hL'
  have hst := hc.2.2.2.2.2
  have hx : ∀ j, m (-2) j = xs j := fun j => by rw [hst (-2) (by omega)]; rfl
  rw [s_L_law_268]
  simp (disch := first | assumption | omega | (simp (disch := omega) only [gU_row, gU_same, gU_i, gCp_row] <;> omega)) only [↓reduceIte, Option.toList_some, Option.toList_none, List.cons_append, List.nil_append, List.singleton_append, List.append_nil, true_and, and_true, true_or, or_true, andT, iteT, iteF, itT, itF, s_L_law_268, s_L_law_269, s_L_law_270, s_L_law_271, s_L_law_272, s_L_law_273, s_L_law_274, s_L_law_275, s_L_law_276, s_L_law_277, s_L_law_278, s_L_law_279, s_L_law_280, s_L_law_281, s_L_law_282, s_L_law_283, s_L_law_284, s_L_law_287, s_L_law_288, s_L_law_289, s_L_law_290, s_L_law_291, s_L_law_292, s_L_law_293, s_L_law_294, s_L_law_295, s_L_law_296, s_L_law_297, s_L_law_298, s_L_law_299, s_L_law_300, s_L_law_301, s_L_law_302, s_L_law_303, s_L_law_306, s_L_law_309, s_L_law_310, zS_m2, zS_0, hx, iadd_ok]
  refine p_move hc hG (fun m1 X1 Y1 c1 f1 => ?_)
  have hx1 : ∀ j, m1 (-2) j = xs j := fun j => by rw [c1.2.2.2.2.2 (-2) (by omega)]; rfl
  simp (disch := first | assumption | omega | (simp (disch := omega) only [gU_row, gU_same, gU_i, gCp_row] <;> omega)) only [↓reduceIte, Option.toList_some, Option.toList_none, List.cons_append, List.nil_append, List.singleton_append, List.append_nil, true_and, and_true, true_or, or_true, andT, iteT, iteF, itT, itF, s_L_law_268, s_L_law_269, s_L_law_270, s_L_law_271, s_L_law_272, s_L_law_273, s_L_law_274, s_L_law_275, s_L_law_276, s_L_law_277, s_L_law_278, s_L_law_279, s_L_law_280, s_L_law_281, s_L_law_282, s_L_law_283, s_L_law_284, s_L_law_287, s_L_law_288, s_L_law_289, s_L_law_290, s_L_law_291, s_L_law_292, s_L_law_293, s_L_law_294, s_L_law_295, s_L_law_296, s_L_law_297, s_L_law_298, s_L_law_299, s_L_law_300, s_L_law_301, s_L_law_302, s_L_law_303, s_L_law_306, s_L_law_309, s_L_law_310, zS_m2, zS_213, hx1, iadd_ok, lcmp_eq]
  refine r_move (MI_K hm f1) hG (fun m2 i2 f2 => ?_)
  have hx2 : ∀ j, m2 (-2) j = xs j := fun j => by rw [f2.1 (-2) (by omega)]; exact hx1 j
  simp (disch := first | assumption | omega | (simp (disch := omega) only [gU_row, gU_same, gU_i, gCp_row] <;> omega)) only [↓reduceIte, Option.toList_some, Option.toList_none, List.cons_append, List.nil_append, List.singleton_append, List.append_nil, true_and, and_true, true_or, or_true, andT, iteT, iteF, itT, itF, s_L_law_268, s_L_law_269, s_L_law_270, s_L_law_271, s_L_law_272, s_L_law_273, s_L_law_274, s_L_law_275, s_L_law_276, s_L_law_277, s_L_law_278, s_L_law_279, s_L_law_280, s_L_law_281, s_L_law_282, s_L_law_283, s_L_law_284, s_L_law_287, s_L_law_288, s_L_law_289, s_L_law_290, s_L_law_291, s_L_law_292, s_L_law_293, s_L_law_294, s_L_law_295, s_L_law_296, s_L_law_297, s_L_law_298, s_L_law_299, s_L_law_300, s_L_law_301, s_L_law_302, s_L_law_303, s_L_law_306, s_L_law_309, s_L_law_310, zS_m2, zS_213, hx2, iadd_ok, lcmp_eq]
  exact nxt m2 X1 Y1 (LI_1 hL c1 f1 i2 f2 (GB_move hG))
set_option maxHeartbeats 400000 in
theorem lw_3 [NeZero (z % 2)] (hL : LIx xs m X Y b kb T S) (i0 : 0 ≤ i) (i7 : i + 7 ≤ L) (l9 : (L : Int) ≤ 2147483647) (hox : ∀ j, okI (xs j)) (nxt : ∀ m' X' Y', LI xs m' X' Y' → R (d + 70) M_L_law 1472 [(2, -2), (2, 0), (2, 213), (0, i)] [] (w0 L z X' Y') m' K) : R (d + 70) M_L_law 311 [(2, -2), (2, 0), (2, 213), (0, i)] [] (w0 L z X Y) m K := by
  have hL' := hL
  obtain ⟨hc, hm, hG, ⟨q1, q2, q3⟩, ⟨t1, t2, t3⟩, s1, s2, s3⟩ := hL'
  have hst := hc.2.2.2.2.2
  have hx : ∀ j, m (-2) j = xs j := fun j => by rw [hst (-2) (by omega)]; rfl
  rw [s_L_law_311]
  simp (disch := first | assumption | omega | (simp (disch := omega) only [gU_row, gU_same, gU_i, gCp_row] <;> omega)) only [↓reduceIte, Option.toList_some, Option.toList_none, List.cons_append, List.nil_append, List.singleton_append, List.append_nil, true_and, and_true, true_or, or_true, andT, iteT, iteF, itT, itF, s_L_law_311, s_L_law_312, s_L_law_313, s_L_law_314, s_L_law_315, s_L_law_316, s_L_law_317, s_L_law_320, s_L_law_321, s_L_law_322, s_L_law_323, s_L_law_324, s_L_law_325, s_L_law_326, s_L_law_329, s_L_law_332, s_L_law_333, zS_m2, zS_0, hx, iadd_ok]
  refine p_still hc hG (fun m1 c1 f1 => ?_)
  have hx1 : ∀ j, m1 (-2) j = xs j := fun j => by rw [c1.2.2.2.2.2 (-2) (by omega)]; rfl
  simp (disch := first | assumption | omega | (simp (disch := omega) only [gU_row, gU_same, gU_i, gCp_row] <;> omega)) only [↓reduceIte, Option.toList_some, Option.toList_none, List.cons_append, List.nil_append, List.singleton_append, List.append_nil, true_and, and_true, true_or, or_true, andT, iteT, iteF, itT, itF, s_L_law_311, s_L_law_312, s_L_law_313, s_L_law_314, s_L_law_315, s_L_law_316, s_L_law_317, s_L_law_320, s_L_law_321, s_L_law_322, s_L_law_323, s_L_law_324, s_L_law_325, s_L_law_326, s_L_law_329, s_L_law_332, s_L_law_333, zS_m2, zS_213, hx1, iadd_ok, lcmp_eq]
  refine r_still (MI_K hm f1) hG (fun m2 i2 f2 => ?_)
  have hx2 : ∀ j, m2 (-2) j = xs j := fun j => by rw [f2.1 (-2) (by omega)]; exact hx1 j
  simp (disch := first | assumption | omega | (simp (disch := omega) only [gU_row, gU_same, gU_i, gCp_row] <;> omega)) only [↓reduceIte, Option.toList_some, Option.toList_none, List.cons_append, List.nil_append, List.singleton_append, List.append_nil, true_and, and_true, true_or, or_true, andT, iteT, iteF, itT, itF, s_L_law_311, s_L_law_312, s_L_law_313, s_L_law_314, s_L_law_315, s_L_law_316, s_L_law_317, s_L_law_320, s_L_law_321, s_L_law_322, s_L_law_323, s_L_law_324, s_L_law_325, s_L_law_326, s_L_law_329, s_L_law_332, s_L_law_333, zS_m2, zS_213, hx2, iadd_ok, lcmp_eq]
  exact nxt m2 X Y (LI_1 hL c1 f1 i2 f2 (GB_still hG (BK_s2 hc.2.1)))
set_option maxHeartbeats 400000 in
theorem lw_4 [NeZero (z % 2)] (hL : LIx xs m X Y b kb T S) (i0 : 0 ≤ i) (i7 : i + 7 ≤ L) (l9 : (L : Int) ≤ 2147483647) (hox : ∀ j, okI (xs j)) (nxt : ∀ m' X' Y', LI xs m' X' Y' → R (d + 70) M_L_law 1472 [(2, -2), (2, 0), (2, 213), (0, i)] [] (w0 L z X' Y') m' K) : R (d + 70) M_L_law 334 [(2, -2), (2, 0), (2, 213), (0, i)] [] (w0 L z X Y) m K := by
  have hL' := hL
  obtain ⟨hc, hm, hG, ⟨q1, q2, q3⟩, ⟨t1, t2, t3⟩, s1, s2, s3⟩ := hL'
  have hst := hc.2.2.2.2.2
  have hx : ∀ j, m (-2) j = xs j := fun j => by rw [hst (-2) (by omega)]; rfl
  rw [s_L_law_334]
  simp (disch := first | assumption | omega | (simp (disch := omega) only [gU_row, gU_same, gU_i, gCp_row] <;> omega)) only [↓reduceIte, Option.toList_some, Option.toList_none, List.cons_append, List.nil_append, List.singleton_append, List.append_nil, true_and, and_true, true_or, or_true, andT, iteT, iteF, itT, itF, s_L_law_334, s_L_law_335, s_L_law_336, s_L_law_337, s_L_law_338, s_L_law_339, s_L_law_340, s_L_law_341, s_L_law_342, s_L_law_343, s_L_law_344, s_L_law_345, s_L_law_346, s_L_law_347, s_L_law_348, s_L_law_349, s_L_law_350, s_L_law_353, s_L_law_354, s_L_law_355, s_L_law_356, s_L_law_357, s_L_law_358, s_L_law_359, s_L_law_360, s_L_law_361, s_L_law_362, s_L_law_363, s_L_law_364, s_L_law_365, s_L_law_366, s_L_law_367, s_L_law_368, s_L_law_369, s_L_law_372, s_L_law_375, s_L_law_376, zS_m2, zS_0, hx, iadd_ok]
  refine p_moved hc hG ?_
  simp (disch := first | assumption | omega | (simp (disch := omega) only [gU_row, gU_same, gU_i, gCp_row] <;> omega)) only [↓reduceIte, Option.toList_some, Option.toList_none, List.cons_append, List.nil_append, List.singleton_append, List.append_nil, true_and, and_true, true_or, or_true, andT, iteT, iteF, itT, itF, s_L_law_334, s_L_law_335, s_L_law_336, s_L_law_337, s_L_law_338, s_L_law_339, s_L_law_340, s_L_law_341, s_L_law_342, s_L_law_343, s_L_law_344, s_L_law_345, s_L_law_346, s_L_law_347, s_L_law_348, s_L_law_349, s_L_law_350, s_L_law_353, s_L_law_354, s_L_law_355, s_L_law_356, s_L_law_357, s_L_law_358, s_L_law_359, s_L_law_360, s_L_law_361, s_L_law_362, s_L_law_363, s_L_law_364, s_L_law_365, s_L_law_366, s_L_law_367, s_L_law_368, s_L_law_369, s_L_law_372, s_L_law_375, s_L_law_376, zS_m2, zS_213, hx, iadd_ok, lcmp_eq]
  refine r_moved hm hG ?_
  simp (disch := first | assumption | omega | (simp (disch := omega) only [gU_row, gU_same, gU_i, gCp_row] <;> omega)) only [↓reduceIte, Option.toList_some, Option.toList_none, List.cons_append, List.nil_append, List.singleton_append, List.append_nil, true_and, and_true, true_or, or_true, andT, iteT, iteF, itT, itF, s_L_law_334, s_L_law_335, s_L_law_336, s_L_law_337, s_L_law_338, s_L_law_339, s_L_law_340, s_L_law_341, s_L_law_342, s_L_law_343, s_L_law_344, s_L_law_345, s_L_law_346, s_L_law_347, s_L_law_348, s_L_law_349, s_L_law_350, s_L_law_353, s_L_law_354, s_L_law_355, s_L_law_356, s_L_law_357, s_L_law_358, s_L_law_359, s_L_law_360, s_L_law_361, s_L_law_362, s_L_law_363, s_L_law_364, s_L_law_365, s_L_law_366, s_L_law_367, s_L_law_368, s_L_law_369, s_L_law_372, s_L_law_375, s_L_law_376, zS_m2, zS_213, hx, iadd_ok, lcmp_eq]
  exact nxt m X Y ⟨b, kb, T, S, hL⟩
set_option maxHeartbeats 400000 in
theorem lw_5 [NeZero (z % 2)] (hL : LIx xs m X Y b kb T S) (i0 : 0 ≤ i) (i7 : i + 7 ≤ L) (l9 : (L : Int) ≤ 2147483647) (hox : ∀ j, okI (xs j)) (nxt : ∀ m' X' Y', LI xs m' X' Y' → R (d + 70) M_L_law 1472 [(2, -2), (2, 0), (2, 213), (0, i)] [] (w0 L z X' Y') m' K) : R (d + 70) M_L_law 377 [(2, -2), (2, 0), (2, 213), (0, i)] [] (w0 L z X Y) m K := by
  have hL' := hL
  obtain ⟨hc, hm, hG, ⟨q1, q2, q3⟩, ⟨t1, t2, t3⟩, s1, s2, s3⟩ := hL'
  have hst := hc.2.2.2.2.2
  have hx : ∀ j, m (-2) j = xs j := fun j => by rw [hst (-2) (by omega)]; rfl
  rw [s_L_law_377]
  simp (disch := first | assumption | omega | (simp (disch := omega) only [gU_row, gU_same, gU_i, gCp_row] <;> omega)) only [↓reduceIte, Option.toList_some, Option.toList_none, List.cons_append, List.nil_append, List.singleton_append, List.append_nil, true_and, and_true, true_or, or_true, andT, iteT, iteF, itT, itF, s_L_law_377, s_L_law_378, s_L_law_379, s_L_law_380, s_L_law_381, s_L_law_382, s_L_law_383, s_L_law_384, s_L_law_385, s_L_law_386, s_L_law_387, s_L_law_388, s_L_law_389, s_L_law_390, s_L_law_391, s_L_law_392, s_L_law_393, s_L_law_394, s_L_law_395, s_L_law_396, s_L_law_397, s_L_law_398, s_L_law_399, s_L_law_400, s_L_law_401, s_L_law_402, s_L_law_403, s_L_law_404, s_L_law_405, s_L_law_407, s_L_law_408, s_L_law_409, s_L_law_412, s_L_law_413, s_L_law_414, s_L_law_415, s_L_law_416, s_L_law_417, s_L_law_418, s_L_law_419, s_L_law_420, s_L_law_421, s_L_law_422, s_L_law_423, s_L_law_424, s_L_law_425, s_L_law_426, s_L_law_427, s_L_law_428, s_L_law_429, s_L_law_430, s_L_law_431, s_L_law_432, s_L_law_433, s_L_law_434, s_L_law_435, s_L_law_436, s_L_law_437, s_L_law_438, s_L_law_439, s_L_law_440, s_L_law_442, s_L_law_443, s_L_law_444, s_L_law_447, s_L_law_450, s_L_law_451, zS_m2, zS_0, hx, iadd_ok]
  refine p_offset hc hG (fun m1 X1 Y1 c1 f1 => ?_)
  have hx1 : ∀ j, m1 (-2) j = xs j := fun j => by rw [c1.2.2.2.2.2 (-2) (by omega)]; rfl
  simp (disch := first | assumption | omega | (simp (disch := omega) only [gU_row, gU_same, gU_i, gCp_row] <;> omega)) only [↓reduceIte, Option.toList_some, Option.toList_none, List.cons_append, List.nil_append, List.singleton_append, List.append_nil, true_and, and_true, true_or, or_true, andT, iteT, iteF, itT, itF, s_L_law_377, s_L_law_378, s_L_law_379, s_L_law_380, s_L_law_381, s_L_law_382, s_L_law_383, s_L_law_384, s_L_law_385, s_L_law_386, s_L_law_387, s_L_law_388, s_L_law_389, s_L_law_390, s_L_law_391, s_L_law_392, s_L_law_393, s_L_law_394, s_L_law_395, s_L_law_396, s_L_law_397, s_L_law_398, s_L_law_399, s_L_law_400, s_L_law_401, s_L_law_402, s_L_law_403, s_L_law_404, s_L_law_405, s_L_law_407, s_L_law_408, s_L_law_409, s_L_law_412, s_L_law_413, s_L_law_414, s_L_law_415, s_L_law_416, s_L_law_417, s_L_law_418, s_L_law_419, s_L_law_420, s_L_law_421, s_L_law_422, s_L_law_423, s_L_law_424, s_L_law_425, s_L_law_426, s_L_law_427, s_L_law_428, s_L_law_429, s_L_law_430, s_L_law_431, s_L_law_432, s_L_law_433, s_L_law_434, s_L_law_435, s_L_law_436, s_L_law_437, s_L_law_438, s_L_law_439, s_L_law_440, s_L_law_442, s_L_law_443, s_L_law_444, s_L_law_447, s_L_law_450, s_L_law_451, zS_m2, zS_213, hx1, iadd_ok, lcmp_eq]
  refine r_offset (MI_K hm f1) hG (fun m2 i2 f2 => ?_)
  have hx2 : ∀ j, m2 (-2) j = xs j := fun j => by rw [f2.1 (-2) (by omega)]; exact hx1 j
  simp (disch := first | assumption | omega | (simp (disch := omega) only [gU_row, gU_same, gU_i, gCp_row] <;> omega)) only [↓reduceIte, Option.toList_some, Option.toList_none, List.cons_append, List.nil_append, List.singleton_append, List.append_nil, true_and, and_true, true_or, or_true, andT, iteT, iteF, itT, itF, s_L_law_377, s_L_law_378, s_L_law_379, s_L_law_380, s_L_law_381, s_L_law_382, s_L_law_383, s_L_law_384, s_L_law_385, s_L_law_386, s_L_law_387, s_L_law_388, s_L_law_389, s_L_law_390, s_L_law_391, s_L_law_392, s_L_law_393, s_L_law_394, s_L_law_395, s_L_law_396, s_L_law_397, s_L_law_398, s_L_law_399, s_L_law_400, s_L_law_401, s_L_law_402, s_L_law_403, s_L_law_404, s_L_law_405, s_L_law_407, s_L_law_408, s_L_law_409, s_L_law_412, s_L_law_413, s_L_law_414, s_L_law_415, s_L_law_416, s_L_law_417, s_L_law_418, s_L_law_419, s_L_law_420, s_L_law_421, s_L_law_422, s_L_law_423, s_L_law_424, s_L_law_425, s_L_law_426, s_L_law_427, s_L_law_428, s_L_law_429, s_L_law_430, s_L_law_431, s_L_law_432, s_L_law_433, s_L_law_434, s_L_law_435, s_L_law_436, s_L_law_437, s_L_law_438, s_L_law_439, s_L_law_440, s_L_law_442, s_L_law_443, s_L_law_444, s_L_law_447, s_L_law_450, s_L_law_451, zS_m2, zS_213, hx2, iadd_ok, lcmp_eq]
  exact nxt m2 X1 Y1 (LI_1 hL c1 f1 i2 f2 (GB_offset hG))
set_option maxHeartbeats 400000 in
theorem lw_6 [NeZero (z % 2)] (hL : LIx xs m X Y b kb T S) (i0 : 0 ≤ i) (i7 : i + 7 ≤ L) (l9 : (L : Int) ≤ 2147483647) (hox : ∀ j, okI (xs j)) (nxt : ∀ m' X' Y', LI xs m' X' Y' → R (d + 70) M_L_law 1472 [(2, -2), (2, 0), (2, 213), (0, i)] [] (w0 L z X' Y') m' K) : R (d + 70) M_L_law 452 [(2, -2), (2, 0), (2, 213), (0, i)] [] (w0 L z X Y) m K := by
  have hL' := hL
  obtain ⟨hc, hm, hG, ⟨q1, q2, q3⟩, ⟨t1, t2, t3⟩, s1, s2, s3⟩ := hL'
  have hst := hc.2.2.2.2.2
  have hx : ∀ j, m (-2) j = xs j := fun j => by rw [hst (-2) (by omega)]; rfl
  rw [s_L_law_452]
  simp (disch := first | assumption | omega | (simp (disch := omega) only [gU_row, gU_same, gU_i, gCp_row] <;> omega)) only [↓reduceIte, Option.toList_some, Option.toList_none, List.cons_append, List.nil_append, List.singleton_append, List.append_nil, true_and, and_true, true_or, or_true, andT, iteT, iteF, itT, itF, s_L_law_452, s_L_law_453, s_L_law_454, s_L_law_455, s_L_law_456, s_L_law_457, s_L_law_458, s_L_law_461, s_L_law_462, s_L_law_463, s_L_law_464, s_L_law_465, s_L_law_466, s_L_law_467, s_L_law_470, s_L_law_473, s_L_law_474, zS_m2, zS_0, hx, iadd_ok]
  refine p_unset hc hG (fun m1 c1 f1 => ?_)
  have hx1 : ∀ j, m1 (-2) j = xs j := fun j => by rw [c1.2.2.2.2.2 (-2) (by omega)]; rfl
  simp (disch := first | assumption | omega | (simp (disch := omega) only [gU_row, gU_same, gU_i, gCp_row] <;> omega)) only [↓reduceIte, Option.toList_some, Option.toList_none, List.cons_append, List.nil_append, List.singleton_append, List.append_nil, true_and, and_true, true_or, or_true, andT, iteT, iteF, itT, itF, s_L_law_452, s_L_law_453, s_L_law_454, s_L_law_455, s_L_law_456, s_L_law_457, s_L_law_458, s_L_law_461, s_L_law_462, s_L_law_463, s_L_law_464, s_L_law_465, s_L_law_466, s_L_law_467, s_L_law_470, s_L_law_473, s_L_law_474, zS_m2, zS_213, hx1, iadd_ok, lcmp_eq]
  refine r_unset (MI_K hm f1) hG (fun m2 i2 f2 => ?_)
  have hx2 : ∀ j, m2 (-2) j = xs j := fun j => by rw [f2.1 (-2) (by omega)]; exact hx1 j
  simp (disch := first | assumption | omega | (simp (disch := omega) only [gU_row, gU_same, gU_i, gCp_row] <;> omega)) only [↓reduceIte, Option.toList_some, Option.toList_none, List.cons_append, List.nil_append, List.singleton_append, List.append_nil, true_and, and_true, true_or, or_true, andT, iteT, iteF, itT, itF, s_L_law_452, s_L_law_453, s_L_law_454, s_L_law_455, s_L_law_456, s_L_law_457, s_L_law_458, s_L_law_461, s_L_law_462, s_L_law_463, s_L_law_464, s_L_law_465, s_L_law_466, s_L_law_467, s_L_law_470, s_L_law_473, s_L_law_474, zS_m2, zS_213, hx2, iadd_ok, lcmp_eq]
  exact nxt m2 X Y (LI_1 hL c1 f1 i2 f2 (GB_unset hG (BK_s2 hc.2.1)))
set_option maxHeartbeats 400000 in
theorem lw_7 [NeZero (z % 2)] (hL : LIx xs m X Y b kb T S) (i0 : 0 ≤ i) (i7 : i + 7 ≤ L) (l9 : (L : Int) ≤ 2147483647) (hox : ∀ j, okI (xs j)) (nxt : ∀ m' X' Y', LI xs m' X' Y' → R (d + 70) M_L_law 1472 [(2, -2), (2, 0), (2, 213), (0, i)] [] (w0 L z X' Y') m' K) : R (d + 70) M_L_law 475 [(2, -2), (2, 0), (2, 213), (0, i)] [] (w0 L z X Y) m K := by
  have hL' := hL
  obtain ⟨hc, hm, hG, ⟨q1, q2, q3⟩, ⟨t1, t2, t3⟩, s1, s2, s3⟩ := hL'
  have hst := hc.2.2.2.2.2
  have hx : ∀ j, m (-2) j = xs j := fun j => by rw [hst (-2) (by omega)]; rfl
  rw [s_L_law_475]
  simp (disch := first | assumption | omega | (simp (disch := omega) only [gU_row, gU_same, gU_i, gCp_row] <;> omega)) only [↓reduceIte, Option.toList_some, Option.toList_none, List.cons_append, List.nil_append, List.singleton_append, List.append_nil, true_and, and_true, true_or, or_true, andT, iteT, iteF, itT, itF, s_L_law_475, s_L_law_476, s_L_law_477, s_L_law_478, s_L_law_479, s_L_law_480, s_L_law_481, s_L_law_482, s_L_law_483, s_L_law_484, s_L_law_485, s_L_law_486, s_L_law_487, s_L_law_488, s_L_law_489, s_L_law_490, s_L_law_491, s_L_law_492, s_L_law_493, s_L_law_494, s_L_law_495, s_L_law_496, s_L_law_497, s_L_law_498, s_L_law_499, s_L_law_500, s_L_law_501, s_L_law_504, s_L_law_505, s_L_law_506, s_L_law_507, s_L_law_508, s_L_law_509, s_L_law_510, s_L_law_511, s_L_law_512, s_L_law_513, s_L_law_514, s_L_law_515, s_L_law_516, s_L_law_517, s_L_law_518, s_L_law_519, s_L_law_520, s_L_law_521, s_L_law_522, s_L_law_523, s_L_law_524, s_L_law_525, s_L_law_526, s_L_law_527, s_L_law_528, s_L_law_529, s_L_law_530, s_L_law_533, s_L_law_536, s_L_law_537, zS_m2, zS_0, hx, iadd_ok]
  refine p_trade hc hG (fun m1 X1 Y1 c1 f1 => ?_)
  have hx1 : ∀ j, m1 (-2) j = xs j := fun j => by rw [c1.2.2.2.2.2 (-2) (by omega)]; rfl
  simp (disch := first | assumption | omega | (simp (disch := omega) only [gU_row, gU_same, gU_i, gCp_row] <;> omega)) only [↓reduceIte, Option.toList_some, Option.toList_none, List.cons_append, List.nil_append, List.singleton_append, List.append_nil, true_and, and_true, true_or, or_true, andT, iteT, iteF, itT, itF, s_L_law_475, s_L_law_476, s_L_law_477, s_L_law_478, s_L_law_479, s_L_law_480, s_L_law_481, s_L_law_482, s_L_law_483, s_L_law_484, s_L_law_485, s_L_law_486, s_L_law_487, s_L_law_488, s_L_law_489, s_L_law_490, s_L_law_491, s_L_law_492, s_L_law_493, s_L_law_494, s_L_law_495, s_L_law_496, s_L_law_497, s_L_law_498, s_L_law_499, s_L_law_500, s_L_law_501, s_L_law_504, s_L_law_505, s_L_law_506, s_L_law_507, s_L_law_508, s_L_law_509, s_L_law_510, s_L_law_511, s_L_law_512, s_L_law_513, s_L_law_514, s_L_law_515, s_L_law_516, s_L_law_517, s_L_law_518, s_L_law_519, s_L_law_520, s_L_law_521, s_L_law_522, s_L_law_523, s_L_law_524, s_L_law_525, s_L_law_526, s_L_law_527, s_L_law_528, s_L_law_529, s_L_law_530, s_L_law_533, s_L_law_536, s_L_law_537, zS_m2, zS_213, hx1, iadd_ok, lcmp_eq]
  refine r_trade (MI_K hm f1) hG (fun m2 i2 f2 => ?_)
  have hx2 : ∀ j, m2 (-2) j = xs j := fun j => by rw [f2.1 (-2) (by omega)]; exact hx1 j
  simp (disch := first | assumption | omega | (simp (disch := omega) only [gU_row, gU_same, gU_i, gCp_row] <;> omega)) only [↓reduceIte, Option.toList_some, Option.toList_none, List.cons_append, List.nil_append, List.singleton_append, List.append_nil, true_and, and_true, true_or, or_true, andT, iteT, iteF, itT, itF, s_L_law_475, s_L_law_476, s_L_law_477, s_L_law_478, s_L_law_479, s_L_law_480, s_L_law_481, s_L_law_482, s_L_law_483, s_L_law_484, s_L_law_485, s_L_law_486, s_L_law_487, s_L_law_488, s_L_law_489, s_L_law_490, s_L_law_491, s_L_law_492, s_L_law_493, s_L_law_494, s_L_law_495, s_L_law_496, s_L_law_497, s_L_law_498, s_L_law_499, s_L_law_500, s_L_law_501, s_L_law_504, s_L_law_505, s_L_law_506, s_L_law_507, s_L_law_508, s_L_law_509, s_L_law_510, s_L_law_511, s_L_law_512, s_L_law_513, s_L_law_514, s_L_law_515, s_L_law_516, s_L_law_517, s_L_law_518, s_L_law_519, s_L_law_520, s_L_law_521, s_L_law_522, s_L_law_523, s_L_law_524, s_L_law_525, s_L_law_526, s_L_law_527, s_L_law_528, s_L_law_529, s_L_law_530, s_L_law_533, s_L_law_536, s_L_law_537, zS_m2, zS_213, hx2, iadd_ok, lcmp_eq]
  exact nxt m2 X1 Y1 (LI_1 hL c1 f1 i2 f2 (GB_trade hG (BK_s3 hc.2.1).1))
set_option maxHeartbeats 400000 in
theorem lw_8 [NeZero (z % 2)] (hL : LIx xs m X Y b kb T S) (i0 : 0 ≤ i) (i7 : i + 7 ≤ L) (l9 : (L : Int) ≤ 2147483647) (hox : ∀ j, okI (xs j)) (nxt : ∀ m' X' Y', LI xs m' X' Y' → R (d + 70) M_L_law 1472 [(2, -2), (2, 0), (2, 213), (0, i)] [] (w0 L z X' Y') m' K) : R (d + 70) M_L_law 538 [(2, -2), (2, 0), (2, 213), (0, i)] [] (w0 L z X Y) m K := by
  have hL' := hL
  obtain ⟨hc, hm, hG, ⟨q1, q2, q3⟩, ⟨t1, t2, t3⟩, s1, s2, s3⟩ := hL'
  have hst := hc.2.2.2.2.2
  have hx : ∀ j, m (-2) j = xs j := fun j => by rw [hst (-2) (by omega)]; rfl
  rw [s_L_law_538]
  simp (disch := first | assumption | omega | (simp (disch := omega) only [gU_row, gU_same, gU_i, gCp_row] <;> omega)) only [↓reduceIte, Option.toList_some, Option.toList_none, List.cons_append, List.nil_append, List.singleton_append, List.append_nil, true_and, and_true, true_or, or_true, andT, iteT, iteF, itT, itF, s_L_law_538, s_L_law_539, s_L_law_540, s_L_law_541, s_L_law_542, s_L_law_543, s_L_law_544, s_L_law_545, s_L_law_546, s_L_law_547, s_L_law_548, s_L_law_549, s_L_law_550, s_L_law_551, s_L_law_552, s_L_law_553, s_L_law_554, s_L_law_555, s_L_law_556, s_L_law_557, s_L_law_558, s_L_law_559, s_L_law_562, s_L_law_563, s_L_law_564, s_L_law_565, s_L_law_566, s_L_law_567, s_L_law_568, s_L_law_569, s_L_law_570, s_L_law_571, s_L_law_572, s_L_law_573, s_L_law_574, s_L_law_575, s_L_law_576, s_L_law_577, s_L_law_578, s_L_law_579, s_L_law_580, s_L_law_581, s_L_law_582, s_L_law_583, s_L_law_586, s_L_law_589, s_L_law_590, zS_m2, zS_0, hx, iadd_ok]
  refine p_find hc ?_
  simp (disch := first | assumption | omega | (simp (disch := omega) only [gU_row, gU_same, gU_i, gCp_row] <;> omega)) only [↓reduceIte, Option.toList_some, Option.toList_none, List.cons_append, List.nil_append, List.singleton_append, List.append_nil, true_and, and_true, true_or, or_true, andT, iteT, iteF, itT, itF, s_L_law_538, s_L_law_539, s_L_law_540, s_L_law_541, s_L_law_542, s_L_law_543, s_L_law_544, s_L_law_545, s_L_law_546, s_L_law_547, s_L_law_548, s_L_law_549, s_L_law_550, s_L_law_551, s_L_law_552, s_L_law_553, s_L_law_554, s_L_law_555, s_L_law_556, s_L_law_557, s_L_law_558, s_L_law_559, s_L_law_562, s_L_law_563, s_L_law_564, s_L_law_565, s_L_law_566, s_L_law_567, s_L_law_568, s_L_law_569, s_L_law_570, s_L_law_571, s_L_law_572, s_L_law_573, s_L_law_574, s_L_law_575, s_L_law_576, s_L_law_577, s_L_law_578, s_L_law_579, s_L_law_580, s_L_law_581, s_L_law_582, s_L_law_583, s_L_law_586, s_L_law_589, s_L_law_590, zS_m2, zS_213, hx, iadd_ok, lcmp_eq]
  refine r_find hm hG ?_
  simp (disch := first | assumption | omega | (simp (disch := omega) only [gU_row, gU_same, gU_i, gCp_row] <;> omega)) only [↓reduceIte, Option.toList_some, Option.toList_none, List.cons_append, List.nil_append, List.singleton_append, List.append_nil, true_and, and_true, true_or, or_true, andT, iteT, iteF, itT, itF, s_L_law_538, s_L_law_539, s_L_law_540, s_L_law_541, s_L_law_542, s_L_law_543, s_L_law_544, s_L_law_545, s_L_law_546, s_L_law_547, s_L_law_548, s_L_law_549, s_L_law_550, s_L_law_551, s_L_law_552, s_L_law_553, s_L_law_554, s_L_law_555, s_L_law_556, s_L_law_557, s_L_law_558, s_L_law_559, s_L_law_562, s_L_law_563, s_L_law_564, s_L_law_565, s_L_law_566, s_L_law_567, s_L_law_568, s_L_law_569, s_L_law_570, s_L_law_571, s_L_law_572, s_L_law_573, s_L_law_574, s_L_law_575, s_L_law_576, s_L_law_577, s_L_law_578, s_L_law_579, s_L_law_580, s_L_law_581, s_L_law_582, s_L_law_583, s_L_law_586, s_L_law_589, s_L_law_590, zS_m2, zS_213, hx, iadd_ok, lcmp_eq]
  exact nxt m X Y ⟨b, kb, T, S, hL⟩
set_option maxHeartbeats 400000 in
theorem lw_9 [NeZero (z % 2)] (hL : LIx xs m X Y b kb T S) (i0 : 0 ≤ i) (i7 : i + 7 ≤ L) (l9 : (L : Int) ≤ 2147483647) (hox : ∀ j, okI (xs j)) (nxt : ∀ m' X' Y', LI xs m' X' Y' → R (d + 70) M_L_law 1472 [(2, -2), (2, 0), (2, 213), (0, i)] [] (w0 L z X' Y') m' K) : R (d + 70) M_L_law 591 [(2, -2), (2, 0), (2, 213), (0, i)] [] (w0 L z X Y) m K := by
  have hL' := hL
  obtain ⟨hc, hm, hG, ⟨q1, q2, q3⟩, ⟨t1, t2, t3⟩, s1, s2, s3⟩ := hL'
  have hst := hc.2.2.2.2.2
  have hx : ∀ j, m (-2) j = xs j := fun j => by rw [hst (-2) (by omega)]; rfl
  rw [s_L_law_591]
  simp (disch := first | assumption | omega | (simp (disch := omega) only [gU_row, gU_same, gU_i, gCp_row] <;> omega)) only [↓reduceIte, Option.toList_some, Option.toList_none, List.cons_append, List.nil_append, List.singleton_append, List.append_nil, true_and, and_true, true_or, or_true, andT, iteT, iteF, itT, itF, s_L_law_591, s_L_law_592, s_L_law_593, s_L_law_594, s_L_law_595, s_L_law_596, s_L_law_597, s_L_law_598, s_L_law_599, s_L_law_600, s_L_law_601, s_L_law_602, s_L_law_605, s_L_law_606, s_L_law_607, s_L_law_608, s_L_law_609, s_L_law_610, s_L_law_611, s_L_law_612, s_L_law_613, s_L_law_614, s_L_law_615, s_L_law_616, s_L_law_619, s_L_law_620, s_L_law_623, s_L_law_624, zS_m2, zS_0, hx, iadd_ok]
  refine p_legOf hc ?_
  simp (disch := first | assumption | omega | (simp (disch := omega) only [gU_row, gU_same, gU_i, gCp_row] <;> omega)) only [↓reduceIte, Option.toList_some, Option.toList_none, List.cons_append, List.nil_append, List.singleton_append, List.append_nil, true_and, and_true, true_or, or_true, andT, iteT, iteF, itT, itF, s_L_law_591, s_L_law_592, s_L_law_593, s_L_law_594, s_L_law_595, s_L_law_596, s_L_law_597, s_L_law_598, s_L_law_599, s_L_law_600, s_L_law_601, s_L_law_602, s_L_law_605, s_L_law_606, s_L_law_607, s_L_law_608, s_L_law_609, s_L_law_610, s_L_law_611, s_L_law_612, s_L_law_613, s_L_law_614, s_L_law_615, s_L_law_616, s_L_law_619, s_L_law_620, s_L_law_623, s_L_law_624, zS_m2, zS_213, hx, iadd_ok, lcmp_eq]
  refine r_legOf hm hG ?_
  simp (disch := first | assumption | omega | (simp (disch := omega) only [gU_row, gU_same, gU_i, gCp_row] <;> omega)) only [↓reduceIte, Option.toList_some, Option.toList_none, List.cons_append, List.nil_append, List.singleton_append, List.append_nil, true_and, and_true, true_or, or_true, andT, iteT, iteF, itT, itF, s_L_law_591, s_L_law_592, s_L_law_593, s_L_law_594, s_L_law_595, s_L_law_596, s_L_law_597, s_L_law_598, s_L_law_599, s_L_law_600, s_L_law_601, s_L_law_602, s_L_law_605, s_L_law_606, s_L_law_607, s_L_law_608, s_L_law_609, s_L_law_610, s_L_law_611, s_L_law_612, s_L_law_613, s_L_law_614, s_L_law_615, s_L_law_616, s_L_law_619, s_L_law_620, s_L_law_623, s_L_law_624, zS_m2, zS_213, hx, iadd_ok, lcmp_eq]
  exact nxt m X Y ⟨b, kb, T, S, hL⟩
set_option maxHeartbeats 400000 in
theorem lw_10 [NeZero (z % 2)] (hL : LIx xs m X Y b kb T S) (i0 : 0 ≤ i) (i7 : i + 7 ≤ L) (l9 : (L : Int) ≤ 2147483647) (hox : ∀ j, okI (xs j)) (nxt : ∀ m' X' Y', LI xs m' X' Y' → R (d + 70) M_L_law 1472 [(2, -2), (2, 0), (2, 213), (0, i)] [] (w0 L z X' Y') m' K) : R (d + 70) M_L_law 625 [(2, -2), (2, 0), (2, 213), (0, i)] [] (w0 L z X Y) m K := by
  have hL' := hL
  obtain ⟨hc, hm, hG, ⟨q1, q2, q3⟩, ⟨t1, t2, t3⟩, s1, s2, s3⟩ := hL'
  have hst := hc.2.2.2.2.2
  have hx : ∀ j, m (-2) j = xs j := fun j => by rw [hst (-2) (by omega)]; rfl
  rw [s_L_law_625]
  simp (disch := first | assumption | omega | (simp (disch := omega) only [gU_row, gU_same, gU_i, gCp_row] <;> omega)) only [↓reduceIte, Option.toList_some, Option.toList_none, List.cons_append, List.nil_append, List.singleton_append, List.append_nil, true_and, and_true, true_or, or_true, andT, iteT, iteF, itT, itF, s_L_law_625, s_L_law_626, s_L_law_627, s_L_law_628, s_L_law_629, s_L_law_630, s_L_law_631, s_L_law_632, s_L_law_633, s_L_law_634, s_L_law_635, s_L_law_636, s_L_law_639, s_L_law_640, s_L_law_641, s_L_law_642, s_L_law_643, s_L_law_644, s_L_law_645, s_L_law_646, s_L_law_647, s_L_law_648, s_L_law_649, s_L_law_650, s_L_law_653, s_L_law_656, s_L_law_657, zS_m2, zS_0, hx, iadd_ok]
  refine p_value hc hG ?_
  simp (disch := first | assumption | omega | (simp (disch := omega) only [gU_row, gU_same, gU_i, gCp_row] <;> omega)) only [↓reduceIte, Option.toList_some, Option.toList_none, List.cons_append, List.nil_append, List.singleton_append, List.append_nil, true_and, and_true, true_or, or_true, andT, iteT, iteF, itT, itF, s_L_law_625, s_L_law_626, s_L_law_627, s_L_law_628, s_L_law_629, s_L_law_630, s_L_law_631, s_L_law_632, s_L_law_633, s_L_law_634, s_L_law_635, s_L_law_636, s_L_law_639, s_L_law_640, s_L_law_641, s_L_law_642, s_L_law_643, s_L_law_644, s_L_law_645, s_L_law_646, s_L_law_647, s_L_law_648, s_L_law_649, s_L_law_650, s_L_law_653, s_L_law_656, s_L_law_657, zS_m2, zS_213, hx, iadd_ok, lcmp_eq]
  refine r_value hm hG ?_
  simp (disch := first | assumption | omega | (simp (disch := omega) only [gU_row, gU_same, gU_i, gCp_row] <;> omega)) only [↓reduceIte, Option.toList_some, Option.toList_none, List.cons_append, List.nil_append, List.singleton_append, List.append_nil, true_and, and_true, true_or, or_true, andT, iteT, iteF, itT, itF, s_L_law_625, s_L_law_626, s_L_law_627, s_L_law_628, s_L_law_629, s_L_law_630, s_L_law_631, s_L_law_632, s_L_law_633, s_L_law_634, s_L_law_635, s_L_law_636, s_L_law_639, s_L_law_640, s_L_law_641, s_L_law_642, s_L_law_643, s_L_law_644, s_L_law_645, s_L_law_646, s_L_law_647, s_L_law_648, s_L_law_649, s_L_law_650, s_L_law_653, s_L_law_656, s_L_law_657, zS_m2, zS_213, hx, iadd_ok, lcmp_eq]
  exact nxt m X Y ⟨b, kb, T, S, hL⟩
set_option maxHeartbeats 400000 in
theorem lw_11 [NeZero (z % 2)] (hL : LIx xs m X Y b kb T S) (i0 : 0 ≤ i) (i7 : i + 7 ≤ L) (l9 : (L : Int) ≤ 2147483647) (hox : ∀ j, okI (xs j)) (nxt : ∀ m' X' Y', LI xs m' X' Y' → R (d + 70) M_L_law 1472 [(2, -2), (2, 0), (2, 213), (0, i)] [] (w0 L z X' Y') m' K) : R (d + 70) M_L_law 658 [(2, -2), (2, 0), (2, 213), (0, i)] [] (w0 L z X Y) m K := by
  have hL' := hL
  obtain ⟨hc, hm, hG, ⟨q1, q2, q3⟩, ⟨t1, t2, t3⟩, s1, s2, s3⟩ := hL'
  have hst := hc.2.2.2.2.2
  have hx : ∀ j, m (-2) j = xs j := fun j => by rw [hst (-2) (by omega)]; rfl
  rw [s_L_law_658]
  simp (disch := first | assumption | omega | (simp (disch := omega) only [gU_row, gU_same, gU_i, gCp_row] <;> omega)) only [↓reduceIte, Option.toList_some, Option.toList_none, List.cons_append, List.nil_append, List.singleton_append, List.append_nil, true_and, and_true, true_or, or_true, andT, iteT, iteF, itT, itF, s_L_law_658, s_L_law_659, s_L_law_660, s_L_law_661, s_L_law_662, s_L_law_663, s_L_law_664, s_L_law_665, s_L_law_666, s_L_law_667, s_L_law_668, s_L_law_669, s_L_law_672, s_L_law_673, s_L_law_674, s_L_law_675, s_L_law_676, s_L_law_677, s_L_law_678, s_L_law_679, s_L_law_680, s_L_law_681, s_L_law_682, s_L_law_683, s_L_law_686, s_L_law_689, s_L_law_690, zS_m2, zS_0, hx, iadd_ok]
  refine p_taken hc hG ?_
  simp (disch := first | assumption | omega | (simp (disch := omega) only [gU_row, gU_same, gU_i, gCp_row] <;> omega)) only [↓reduceIte, Option.toList_some, Option.toList_none, List.cons_append, List.nil_append, List.singleton_append, List.append_nil, true_and, and_true, true_or, or_true, andT, iteT, iteF, itT, itF, s_L_law_658, s_L_law_659, s_L_law_660, s_L_law_661, s_L_law_662, s_L_law_663, s_L_law_664, s_L_law_665, s_L_law_666, s_L_law_667, s_L_law_668, s_L_law_669, s_L_law_672, s_L_law_673, s_L_law_674, s_L_law_675, s_L_law_676, s_L_law_677, s_L_law_678, s_L_law_679, s_L_law_680, s_L_law_681, s_L_law_682, s_L_law_683, s_L_law_686, s_L_law_689, s_L_law_690, zS_m2, zS_213, hx, iadd_ok, lcmp_eq]
  refine r_taken hm hG ?_
  simp (disch := first | assumption | omega | (simp (disch := omega) only [gU_row, gU_same, gU_i, gCp_row] <;> omega)) only [↓reduceIte, Option.toList_some, Option.toList_none, List.cons_append, List.nil_append, List.singleton_append, List.append_nil, true_and, and_true, true_or, or_true, andT, iteT, iteF, itT, itF, s_L_law_658, s_L_law_659, s_L_law_660, s_L_law_661, s_L_law_662, s_L_law_663, s_L_law_664, s_L_law_665, s_L_law_666, s_L_law_667, s_L_law_668, s_L_law_669, s_L_law_672, s_L_law_673, s_L_law_674, s_L_law_675, s_L_law_676, s_L_law_677, s_L_law_678, s_L_law_679, s_L_law_680, s_L_law_681, s_L_law_682, s_L_law_683, s_L_law_686, s_L_law_689, s_L_law_690, zS_m2, zS_213, hx, iadd_ok, lcmp_eq]
  exact nxt m X Y ⟨b, kb, T, S, hL⟩
set_option maxHeartbeats 400000 in
theorem lw_12 [NeZero (z % 2)] (hL : LIx xs m X Y b kb T S) (i0 : 0 ≤ i) (i7 : i + 7 ≤ L) (l9 : (L : Int) ≤ 2147483647) (hox : ∀ j, okI (xs j)) (nxt : ∀ m' X' Y', LI xs m' X' Y' → R (d + 70) M_L_law 1472 [(2, -2), (2, 0), (2, 213), (0, i)] [] (w0 L z X' Y') m' K) : R (d + 70) M_L_law 691 [(2, -2), (2, 0), (2, 213), (0, i)] [] (w0 L z X Y) m K := by
  have hL' := hL
  obtain ⟨hc, hm, hG, ⟨q1, q2, q3⟩, ⟨t1, t2, t3⟩, s1, s2, s3⟩ := hL'
  have hst := hc.2.2.2.2.2
  have hx : ∀ j, m (-2) j = xs j := fun j => by rw [hst (-2) (by omega)]; rfl
  rw [s_L_law_691]
  simp (disch := first | assumption | omega | (simp (disch := omega) only [gU_row, gU_same, gU_i, gCp_row] <;> omega)) only [↓reduceIte, Option.toList_some, Option.toList_none, List.cons_append, List.nil_append, List.singleton_append, List.append_nil, true_and, and_true, true_or, or_true, andT, iteT, iteF, itT, itF, s_L_law_691, s_L_law_692, s_L_law_693, s_L_law_694, s_L_law_695, s_L_law_696, s_L_law_697, s_L_law_698, s_L_law_699, s_L_law_700, s_L_law_701, s_L_law_702, s_L_law_705, s_L_law_706, s_L_law_707, s_L_law_708, s_L_law_709, s_L_law_710, s_L_law_711, s_L_law_712, s_L_law_713, s_L_law_714, s_L_law_715, s_L_law_716, s_L_law_719, s_L_law_720, s_L_law_723, s_L_law_724, zS_m2, zS_0, hx, iadd_ok]
  refine p_loss hc ?_
  simp (disch := first | assumption | omega | (simp (disch := omega) only [gU_row, gU_same, gU_i, gCp_row] <;> omega)) only [↓reduceIte, Option.toList_some, Option.toList_none, List.cons_append, List.nil_append, List.singleton_append, List.append_nil, true_and, and_true, true_or, or_true, andT, iteT, iteF, itT, itF, s_L_law_691, s_L_law_692, s_L_law_693, s_L_law_694, s_L_law_695, s_L_law_696, s_L_law_697, s_L_law_698, s_L_law_699, s_L_law_700, s_L_law_701, s_L_law_702, s_L_law_705, s_L_law_706, s_L_law_707, s_L_law_708, s_L_law_709, s_L_law_710, s_L_law_711, s_L_law_712, s_L_law_713, s_L_law_714, s_L_law_715, s_L_law_716, s_L_law_719, s_L_law_720, s_L_law_723, s_L_law_724, zS_m2, zS_213, hx, iadd_ok, lcmp_eq]
  refine r_loss hm hG ?_
  simp (disch := first | assumption | omega | (simp (disch := omega) only [gU_row, gU_same, gU_i, gCp_row] <;> omega)) only [↓reduceIte, Option.toList_some, Option.toList_none, List.cons_append, List.nil_append, List.singleton_append, List.append_nil, true_and, and_true, true_or, or_true, andT, iteT, iteF, itT, itF, s_L_law_691, s_L_law_692, s_L_law_693, s_L_law_694, s_L_law_695, s_L_law_696, s_L_law_697, s_L_law_698, s_L_law_699, s_L_law_700, s_L_law_701, s_L_law_702, s_L_law_705, s_L_law_706, s_L_law_707, s_L_law_708, s_L_law_709, s_L_law_710, s_L_law_711, s_L_law_712, s_L_law_713, s_L_law_714, s_L_law_715, s_L_law_716, s_L_law_719, s_L_law_720, s_L_law_723, s_L_law_724, zS_m2, zS_213, hx, iadd_ok, lcmp_eq]
  exact nxt m X Y ⟨b, kb, T, S, hL⟩
set_option maxHeartbeats 400000 in
theorem lw_13 [NeZero (z % 2)] (hL : LIx xs m X Y b kb T S) (i0 : 0 ≤ i) (i7 : i + 7 ≤ L) (l9 : (L : Int) ≤ 2147483647) (hox : ∀ j, okI (xs j)) (nxt : ∀ m' X' Y', LI xs m' X' Y' → R (d + 70) M_L_law 1472 [(2, -2), (2, 0), (2, 213), (0, i)] [] (w0 L z X' Y') m' K) : R (d + 70) M_L_law 725 [(2, -2), (2, 0), (2, 213), (0, i)] [] (w0 L z X Y) m K := by
  have hL' := hL
  obtain ⟨hc, hm, hG, ⟨q1, q2, q3⟩, ⟨t1, t2, t3⟩, s1, s2, s3⟩ := hL'
  have hst := hc.2.2.2.2.2
  have hx : ∀ j, m (-2) j = xs j := fun j => by rw [hst (-2) (by omega)]; rfl
  rw [s_L_law_725]
  simp (disch := first | assumption | omega | (simp (disch := omega) only [gU_row, gU_same, gU_i, gCp_row] <;> omega)) only [↓reduceIte, Option.toList_some, Option.toList_none, List.cons_append, List.nil_append, List.singleton_append, List.append_nil, true_and, and_true, true_or, or_true, andT, iteT, iteF, itT, itF, s_L_law_725, s_L_law_726, s_L_law_727, s_L_law_728, s_L_law_729, s_L_law_730, s_L_law_731, s_L_law_732, s_L_law_733, s_L_law_734, s_L_law_735, s_L_law_736, s_L_law_739, s_L_law_740, s_L_law_741, s_L_law_742, s_L_law_743, s_L_law_744, s_L_law_745, s_L_law_746, s_L_law_747, s_L_law_748, s_L_law_749, s_L_law_750, s_L_law_753, s_L_law_754, s_L_law_757, s_L_law_758, zS_m2, zS_0, hx, iadd_ok]
  refine p_row hc ?_
  simp (disch := first | assumption | omega | (simp (disch := omega) only [gU_row, gU_same, gU_i, gCp_row] <;> omega)) only [↓reduceIte, Option.toList_some, Option.toList_none, List.cons_append, List.nil_append, List.singleton_append, List.append_nil, true_and, and_true, true_or, or_true, andT, iteT, iteF, itT, itF, s_L_law_725, s_L_law_726, s_L_law_727, s_L_law_728, s_L_law_729, s_L_law_730, s_L_law_731, s_L_law_732, s_L_law_733, s_L_law_734, s_L_law_735, s_L_law_736, s_L_law_739, s_L_law_740, s_L_law_741, s_L_law_742, s_L_law_743, s_L_law_744, s_L_law_745, s_L_law_746, s_L_law_747, s_L_law_748, s_L_law_749, s_L_law_750, s_L_law_753, s_L_law_754, s_L_law_757, s_L_law_758, zS_m2, zS_213, hx, iadd_ok, lcmp_eq]
  refine r_row hm hG ?_
  simp (disch := first | assumption | omega | (simp (disch := omega) only [gU_row, gU_same, gU_i, gCp_row] <;> omega)) only [↓reduceIte, Option.toList_some, Option.toList_none, List.cons_append, List.nil_append, List.singleton_append, List.append_nil, true_and, and_true, true_or, or_true, andT, iteT, iteF, itT, itF, s_L_law_725, s_L_law_726, s_L_law_727, s_L_law_728, s_L_law_729, s_L_law_730, s_L_law_731, s_L_law_732, s_L_law_733, s_L_law_734, s_L_law_735, s_L_law_736, s_L_law_739, s_L_law_740, s_L_law_741, s_L_law_742, s_L_law_743, s_L_law_744, s_L_law_745, s_L_law_746, s_L_law_747, s_L_law_748, s_L_law_749, s_L_law_750, s_L_law_753, s_L_law_754, s_L_law_757, s_L_law_758, zS_m2, zS_213, hx, iadd_ok, lcmp_eq]
  exact nxt m X Y ⟨b, kb, T, S, hL⟩
set_option maxHeartbeats 400000 in
theorem lw_14 [NeZero (z % 2)] (hL : LIx xs m X Y b kb T S) (i0 : 0 ≤ i) (i7 : i + 7 ≤ L) (l9 : (L : Int) ≤ 2147483647) (hox : ∀ j, okI (xs j)) (nxt : ∀ m' X' Y', LI xs m' X' Y' → R (d + 70) M_L_law 1472 [(2, -2), (2, 0), (2, 213), (0, i)] [] (w0 L z X' Y') m' K) : R (d + 70) M_L_law 759 [(2, -2), (2, 0), (2, 213), (0, i)] [] (w0 L z X Y) m K := by
  have hL' := hL
  obtain ⟨hc, hm, hG, ⟨q1, q2, q3⟩, ⟨t1, t2, t3⟩, s1, s2, s3⟩ := hL'
  have hst := hc.2.2.2.2.2
  have hx : ∀ j, m (-2) j = xs j := fun j => by rw [hst (-2) (by omega)]; rfl
  rw [s_L_law_759]
  simp (disch := first | assumption | omega | (simp (disch := omega) only [gU_row, gU_same, gU_i, gCp_row] <;> omega)) only [↓reduceIte, Option.toList_some, Option.toList_none, List.cons_append, List.nil_append, List.singleton_append, List.append_nil, true_and, and_true, true_or, or_true, andT, iteT, iteF, itT, itF, s_L_law_759, s_L_law_760, s_L_law_761, s_L_law_762, s_L_law_763, s_L_law_764, s_L_law_765, s_L_law_766, s_L_law_767, s_L_law_768, s_L_law_769, s_L_law_770, s_L_law_773, s_L_law_774, s_L_law_775, s_L_law_776, s_L_law_777, s_L_law_778, s_L_law_779, s_L_law_780, s_L_law_781, s_L_law_782, s_L_law_783, s_L_law_784, s_L_law_787, s_L_law_788, s_L_law_791, s_L_law_792, zS_m2, zS_0, hx, iadd_ok]
  refine p_risk hc ?_
  simp (disch := first | assumption | omega | (simp (disch := omega) only [gU_row, gU_same, gU_i, gCp_row] <;> omega)) only [↓reduceIte, Option.toList_some, Option.toList_none, List.cons_append, List.nil_append, List.singleton_append, List.append_nil, true_and, and_true, true_or, or_true, andT, iteT, iteF, itT, itF, s_L_law_759, s_L_law_760, s_L_law_761, s_L_law_762, s_L_law_763, s_L_law_764, s_L_law_765, s_L_law_766, s_L_law_767, s_L_law_768, s_L_law_769, s_L_law_770, s_L_law_773, s_L_law_774, s_L_law_775, s_L_law_776, s_L_law_777, s_L_law_778, s_L_law_779, s_L_law_780, s_L_law_781, s_L_law_782, s_L_law_783, s_L_law_784, s_L_law_787, s_L_law_788, s_L_law_791, s_L_law_792, zS_m2, zS_213, hx, iadd_ok, lcmp_eq]
  refine r_risk hm hG ?_
  simp (disch := first | assumption | omega | (simp (disch := omega) only [gU_row, gU_same, gU_i, gCp_row] <;> omega)) only [↓reduceIte, Option.toList_some, Option.toList_none, List.cons_append, List.nil_append, List.singleton_append, List.append_nil, true_and, and_true, true_or, or_true, andT, iteT, iteF, itT, itF, s_L_law_759, s_L_law_760, s_L_law_761, s_L_law_762, s_L_law_763, s_L_law_764, s_L_law_765, s_L_law_766, s_L_law_767, s_L_law_768, s_L_law_769, s_L_law_770, s_L_law_773, s_L_law_774, s_L_law_775, s_L_law_776, s_L_law_777, s_L_law_778, s_L_law_779, s_L_law_780, s_L_law_781, s_L_law_782, s_L_law_783, s_L_law_784, s_L_law_787, s_L_law_788, s_L_law_791, s_L_law_792, zS_m2, zS_213, hx, iadd_ok, lcmp_eq]
  exact nxt m X Y ⟨b, kb, T, S, hL⟩
set_option maxHeartbeats 400000 in
theorem lw_15 [NeZero (z % 2)] (hL : LIx xs m X Y b kb T S) (i0 : 0 ≤ i) (i7 : i + 7 ≤ L) (l9 : (L : Int) ≤ 2147483647) (hox : ∀ j, okI (xs j)) (nxt : ∀ m' X' Y', LI xs m' X' Y' → R (d + 70) M_L_law 1472 [(2, -2), (2, 0), (2, 213), (0, i)] [] (w0 L z X' Y') m' K) : R (d + 70) M_L_law 793 [(2, -2), (2, 0), (2, 213), (0, i)] [] (w0 L z X Y) m K := by
  have hL' := hL
  obtain ⟨hc, hm, hG, ⟨q1, q2, q3⟩, ⟨t1, t2, t3⟩, s1, s2, s3⟩ := hL'
  have hst := hc.2.2.2.2.2
  have hx : ∀ j, m (-2) j = xs j := fun j => by rw [hst (-2) (by omega)]; rfl
  rw [s_L_law_793]
  simp (disch := first | assumption | omega | (simp (disch := omega) only [gU_row, gU_same, gU_i, gCp_row] <;> omega)) only [↓reduceIte, Option.toList_some, Option.toList_none, List.cons_append, List.nil_append, List.singleton_append, List.append_nil, true_and, and_true, true_or, or_true, andT, iteT, iteF, itT, itF, s_L_law_793, s_L_law_794, s_L_law_795, s_L_law_796, s_L_law_797, s_L_law_798, s_L_law_799, s_L_law_802, s_L_law_803, s_L_law_804, s_L_law_805, s_L_law_806, s_L_law_807, s_L_law_808, s_L_law_811, s_L_law_812, s_L_law_815, s_L_law_816, zS_m2, zS_0, hx, iadd_ok]
  refine p_told hc ?_
  simp (disch := first | assumption | omega | (simp (disch := omega) only [gU_row, gU_same, gU_i, gCp_row] <;> omega)) only [↓reduceIte, Option.toList_some, Option.toList_none, List.cons_append, List.nil_append, List.singleton_append, List.append_nil, true_and, and_true, true_or, or_true, andT, iteT, iteF, itT, itF, s_L_law_793, s_L_law_794, s_L_law_795, s_L_law_796, s_L_law_797, s_L_law_798, s_L_law_799, s_L_law_802, s_L_law_803, s_L_law_804, s_L_law_805, s_L_law_806, s_L_law_807, s_L_law_808, s_L_law_811, s_L_law_812, s_L_law_815, s_L_law_816, zS_m2, zS_213, hx, iadd_ok, lcmp_eq]
  refine r_told hm hG ?_
  simp (disch := first | assumption | omega | (simp (disch := omega) only [gU_row, gU_same, gU_i, gCp_row] <;> omega)) only [↓reduceIte, Option.toList_some, Option.toList_none, List.cons_append, List.nil_append, List.singleton_append, List.append_nil, true_and, and_true, true_or, or_true, andT, iteT, iteF, itT, itF, s_L_law_793, s_L_law_794, s_L_law_795, s_L_law_796, s_L_law_797, s_L_law_798, s_L_law_799, s_L_law_802, s_L_law_803, s_L_law_804, s_L_law_805, s_L_law_806, s_L_law_807, s_L_law_808, s_L_law_811, s_L_law_812, s_L_law_815, s_L_law_816, zS_m2, zS_213, hx, iadd_ok, lcmp_eq]
  exact nxt m X Y ⟨b, kb, T, S, hL⟩
set_option maxHeartbeats 400000 in
theorem lw_16 [NeZero (z % 2)] (hL : LIx xs m X Y b kb T S) (i0 : 0 ≤ i) (i7 : i + 7 ≤ L) (l9 : (L : Int) ≤ 2147483647) (hox : ∀ j, okI (xs j)) (nxt : ∀ m' X' Y', LI xs m' X' Y' → R (d + 70) M_L_law 1472 [(2, -2), (2, 0), (2, 213), (0, i)] [] (w0 L z X' Y') m' K) : R (d + 70) M_L_law 817 [(2, -2), (2, 0), (2, 213), (0, i)] [] (w0 L z X Y) m K := by
  have hL' := hL
  obtain ⟨hc, hm, hG, ⟨q1, q2, q3⟩, ⟨t1, t2, t3⟩, s1, s2, s3⟩ := hL'
  have hst := hc.2.2.2.2.2
  have hx : ∀ j, m (-2) j = xs j := fun j => by rw [hst (-2) (by omega)]; rfl
  rw [s_L_law_817]
  simp (disch := first | assumption | omega | (simp (disch := omega) only [gU_row, gU_same, gU_i, gCp_row] <;> omega)) only [↓reduceIte, Option.toList_some, Option.toList_none, List.cons_append, List.nil_append, List.singleton_append, List.append_nil, true_and, and_true, true_or, or_true, andT, iteT, iteF, itT, itF, s_L_law_817, s_L_law_818, s_L_law_819, s_L_law_820, s_L_law_821, s_L_law_822, s_L_law_823, s_L_law_826, s_L_law_827, s_L_law_828, s_L_law_829, s_L_law_830, s_L_law_831, s_L_law_832, s_L_law_835, s_L_law_838, s_L_law_839, zS_m2, zS_0, hx, iadd_ok]
  refine p_order hc ?_
  simp (disch := first | assumption | omega | (simp (disch := omega) only [gU_row, gU_same, gU_i, gCp_row] <;> omega)) only [↓reduceIte, Option.toList_some, Option.toList_none, List.cons_append, List.nil_append, List.singleton_append, List.append_nil, true_and, and_true, true_or, or_true, andT, iteT, iteF, itT, itF, s_L_law_817, s_L_law_818, s_L_law_819, s_L_law_820, s_L_law_821, s_L_law_822, s_L_law_823, s_L_law_826, s_L_law_827, s_L_law_828, s_L_law_829, s_L_law_830, s_L_law_831, s_L_law_832, s_L_law_835, s_L_law_838, s_L_law_839, zS_m2, zS_213, hx, iadd_ok, lcmp_eq]
  refine r_order hm hG ?_
  simp (disch := first | assumption | omega | (simp (disch := omega) only [gU_row, gU_same, gU_i, gCp_row] <;> omega)) only [↓reduceIte, Option.toList_some, Option.toList_none, List.cons_append, List.nil_append, List.singleton_append, List.append_nil, true_and, and_true, true_or, or_true, andT, iteT, iteF, itT, itF, s_L_law_817, s_L_law_818, s_L_law_819, s_L_law_820, s_L_law_821, s_L_law_822, s_L_law_823, s_L_law_826, s_L_law_827, s_L_law_828, s_L_law_829, s_L_law_830, s_L_law_831, s_L_law_832, s_L_law_835, s_L_law_838, s_L_law_839, zS_m2, zS_213, hx, iadd_ok, lcmp_eq]
  exact nxt m X Y ⟨b, kb, T, S, hL⟩
set_option maxHeartbeats 400000 in
theorem lw_17 [NeZero (z % 2)] (hL : LIx xs m X Y b kb T S) (i0 : 0 ≤ i) (i7 : i + 7 ≤ L) (l9 : (L : Int) ≤ 2147483647) (hox : ∀ j, okI (xs j)) (nxt : ∀ m' X' Y', LI xs m' X' Y' → R (d + 70) M_L_law 1472 [(2, -2), (2, 0), (2, 213), (0, i)] [] (w0 L z X' Y') m' K) : R (d + 70) M_L_law 840 [(2, -2), (2, 0), (2, 213), (0, i)] [] (w0 L z X Y) m K := by
  have hL' := hL
  obtain ⟨hc, hm, hG, ⟨q1, q2, q3⟩, ⟨t1, t2, t3⟩, s1, s2, s3⟩ := hL'
  have hst := hc.2.2.2.2.2
  have hx : ∀ j, m (-2) j = xs j := fun j => by rw [hst (-2) (by omega)]; rfl
  rw [s_L_law_840]
  simp (disch := first | assumption | omega | (simp (disch := omega) only [gU_row, gU_same, gU_i, gCp_row] <;> omega)) only [↓reduceIte, Option.toList_some, Option.toList_none, List.cons_append, List.nil_append, List.singleton_append, List.append_nil, true_and, and_true, true_or, or_true, andT, iteT, iteF, itT, itF, s_L_law_840, s_L_law_841, s_L_law_842, s_L_law_843, s_L_law_844, s_L_law_845, s_L_law_846, s_L_law_847, s_L_law_848, s_L_law_849, s_L_law_850, s_L_law_851, s_L_law_854, s_L_law_855, s_L_law_856, s_L_law_857, s_L_law_858, s_L_law_859, s_L_law_860, s_L_law_861, s_L_law_862, s_L_law_863, s_L_law_864, s_L_law_865, s_L_law_868, s_L_law_871, s_L_law_872, zS_m2, zS_0, hx, iadd_ok]
  refine p_used hc hG (fun m1 c1 f1 => ?_)
  have hx1 : ∀ j, m1 (-2) j = xs j := fun j => by rw [c1.2.2.2.2.2 (-2) (by omega)]; rfl
  simp (disch := first | assumption | omega | (simp (disch := omega) only [gU_row, gU_same, gU_i, gCp_row] <;> omega)) only [↓reduceIte, Option.toList_some, Option.toList_none, List.cons_append, List.nil_append, List.singleton_append, List.append_nil, true_and, and_true, true_or, or_true, andT, iteT, iteF, itT, itF, s_L_law_840, s_L_law_841, s_L_law_842, s_L_law_843, s_L_law_844, s_L_law_845, s_L_law_846, s_L_law_847, s_L_law_848, s_L_law_849, s_L_law_850, s_L_law_851, s_L_law_854, s_L_law_855, s_L_law_856, s_L_law_857, s_L_law_858, s_L_law_859, s_L_law_860, s_L_law_861, s_L_law_862, s_L_law_863, s_L_law_864, s_L_law_865, s_L_law_868, s_L_law_871, s_L_law_872, zS_m2, zS_213, hx1, iadd_ok, lcmp_eq]
  refine r_used (MI_K hm f1) hG ?_
  simp (disch := first | assumption | omega | (simp (disch := omega) only [gU_row, gU_same, gU_i, gCp_row] <;> omega)) only [↓reduceIte, Option.toList_some, Option.toList_none, List.cons_append, List.nil_append, List.singleton_append, List.append_nil, true_and, and_true, true_or, or_true, andT, iteT, iteF, itT, itF, s_L_law_840, s_L_law_841, s_L_law_842, s_L_law_843, s_L_law_844, s_L_law_845, s_L_law_846, s_L_law_847, s_L_law_848, s_L_law_849, s_L_law_850, s_L_law_851, s_L_law_854, s_L_law_855, s_L_law_856, s_L_law_857, s_L_law_858, s_L_law_859, s_L_law_860, s_L_law_861, s_L_law_862, s_L_law_863, s_L_law_864, s_L_law_865, s_L_law_868, s_L_law_871, s_L_law_872, zS_m2, zS_213, hx1, iadd_ok, lcmp_eq]
  exact nxt m1 X Y (LI_1 hL c1 f1 (MI_K hm f1) FrM_refl hG)
set_option maxHeartbeats 400000 in
theorem lw_18 [NeZero (z % 2)] (hL : LIx xs m X Y b kb T S) (i0 : 0 ≤ i) (i7 : i + 7 ≤ L) (l9 : (L : Int) ≤ 2147483647) (hox : ∀ j, okI (xs j)) (nxt : ∀ m' X' Y', LI xs m' X' Y' → R (d + 70) M_L_law 1472 [(2, -2), (2, 0), (2, 213), (0, i)] [] (w0 L z X' Y') m' K) : R (d + 70) M_L_law 873 [(2, -2), (2, 0), (2, 213), (0, i)] [] (w0 L z X Y) m K := by
  have hL' := hL
  obtain ⟨hc, hm, hG, ⟨q1, q2, q3⟩, ⟨t1, t2, t3⟩, s1, s2, s3⟩ := hL'
  have hst := hc.2.2.2.2.2
  have hx : ∀ j, m (-2) j = xs j := fun j => by rw [hst (-2) (by omega)]; rfl
  rw [s_L_law_873]
  simp (disch := first | assumption | omega | (simp (disch := omega) only [gU_row, gU_same, gU_i, gCp_row] <;> omega)) only [↓reduceIte, Option.toList_some, Option.toList_none, List.cons_append, List.nil_append, List.singleton_append, List.append_nil, true_and, and_true, true_or, or_true, andT, iteT, iteF, itT, itF, s_L_law_873, s_L_law_874, s_L_law_875, s_L_law_876, s_L_law_877, s_L_law_878, s_L_law_879, s_L_law_882, s_L_law_883, s_L_law_884, s_L_law_885, s_L_law_886, s_L_law_887, s_L_law_888, s_L_law_891, s_L_law_892, s_L_law_895, s_L_law_896, zS_m2, zS_0, hx, iadd_ok]
  refine p_ordered hc hG (fun m1 c1 f1 => ?_)
  have hx1 : ∀ j, m1 (-2) j = xs j := fun j => by rw [c1.2.2.2.2.2 (-2) (by omega)]; rfl
  simp (disch := first | assumption | omega | (simp (disch := omega) only [gU_row, gU_same, gU_i, gCp_row] <;> omega)) only [↓reduceIte, Option.toList_some, Option.toList_none, List.cons_append, List.nil_append, List.singleton_append, List.append_nil, true_and, and_true, true_or, or_true, andT, iteT, iteF, itT, itF, s_L_law_873, s_L_law_874, s_L_law_875, s_L_law_876, s_L_law_877, s_L_law_878, s_L_law_879, s_L_law_882, s_L_law_883, s_L_law_884, s_L_law_885, s_L_law_886, s_L_law_887, s_L_law_888, s_L_law_891, s_L_law_892, s_L_law_895, s_L_law_896, zS_m2, zS_213, hx1, iadd_ok, lcmp_eq]
  refine r_ordered (MI_K hm f1) hG ?_
  simp (disch := first | assumption | omega | (simp (disch := omega) only [gU_row, gU_same, gU_i, gCp_row] <;> omega)) only [↓reduceIte, Option.toList_some, Option.toList_none, List.cons_append, List.nil_append, List.singleton_append, List.append_nil, true_and, and_true, true_or, or_true, andT, iteT, iteF, itT, itF, s_L_law_873, s_L_law_874, s_L_law_875, s_L_law_876, s_L_law_877, s_L_law_878, s_L_law_879, s_L_law_882, s_L_law_883, s_L_law_884, s_L_law_885, s_L_law_886, s_L_law_887, s_L_law_888, s_L_law_891, s_L_law_892, s_L_law_895, s_L_law_896, zS_m2, zS_213, hx1, iadd_ok, lcmp_eq]
  exact nxt m1 X Y (LI_1 hL c1 f1 (MI_K hm f1) FrM_refl hG)
set_option maxHeartbeats 400000 in
theorem lw_19 [NeZero (z % 2)] (hL : LIx xs m X Y b kb T S) (i0 : 0 ≤ i) (i7 : i + 7 ≤ L) (l9 : (L : Int) ≤ 2147483647) (hox : ∀ j, okI (xs j)) (nxt : ∀ m' X' Y', LI xs m' X' Y' → R (d + 70) M_L_law 1472 [(2, -2), (2, 0), (2, 213), (0, i)] [] (w0 L z X' Y') m' K) : R (d + 70) M_L_law 897 [(2, -2), (2, 0), (2, 213), (0, i)] [] (w0 L z X Y) m K := by
  have hL' := hL
  obtain ⟨hc, hm, hG, ⟨q1, q2, q3⟩, ⟨t1, t2, t3⟩, s1, s2, s3⟩ := hL'
  have hst := hc.2.2.2.2.2
  have hx : ∀ j, m (-2) j = xs j := fun j => by rw [hst (-2) (by omega)]; rfl
  rw [s_L_law_897]
  simp (disch := first | assumption | omega | (simp (disch := omega) only [gU_row, gU_same, gU_i, gCp_row] <;> omega)) only [↓reduceIte, Option.toList_some, Option.toList_none, List.cons_append, List.nil_append, List.singleton_append, List.append_nil, true_and, and_true, true_or, or_true, andT, iteT, iteF, itT, itF, s_L_law_897, s_L_law_898, s_L_law_899, s_L_law_900, s_L_law_901, s_L_law_902, s_L_law_903, s_L_law_904, s_L_law_905, s_L_law_906, s_L_law_907, s_L_law_908, s_L_law_909, s_L_law_910, s_L_law_911, s_L_law_912, s_L_law_913, s_L_law_914, s_L_law_915, s_L_law_916, s_L_law_917, s_L_law_918, s_L_law_919, s_L_law_920, s_L_law_921, s_L_law_922, s_L_law_923, s_L_law_926, s_L_law_927, s_L_law_928, s_L_law_929, s_L_law_930, s_L_law_931, s_L_law_932, s_L_law_933, s_L_law_934, s_L_law_935, s_L_law_936, s_L_law_937, s_L_law_938, s_L_law_939, s_L_law_940, s_L_law_941, s_L_law_942, s_L_law_943, s_L_law_944, s_L_law_945, s_L_law_946, s_L_law_947, s_L_law_948, s_L_law_949, s_L_law_950, s_L_law_951, s_L_law_952, s_L_law_955, s_L_law_956, s_L_law_959, s_L_law_960, zS_m2, zS_0, hx, iadd_ok]
  refine p_would hc hG (fun m1 c1 f1 => ?_)
  have hx1 : ∀ j, m1 (-2) j = xs j := fun j => by rw [c1.2.2.2.2.2 (-2) (by omega)]; rfl
  simp (disch := first | assumption | omega | (simp (disch := omega) only [gU_row, gU_same, gU_i, gCp_row] <;> omega)) only [↓reduceIte, Option.toList_some, Option.toList_none, List.cons_append, List.nil_append, List.singleton_append, List.append_nil, true_and, and_true, true_or, or_true, andT, iteT, iteF, itT, itF, s_L_law_897, s_L_law_898, s_L_law_899, s_L_law_900, s_L_law_901, s_L_law_902, s_L_law_903, s_L_law_904, s_L_law_905, s_L_law_906, s_L_law_907, s_L_law_908, s_L_law_909, s_L_law_910, s_L_law_911, s_L_law_912, s_L_law_913, s_L_law_914, s_L_law_915, s_L_law_916, s_L_law_917, s_L_law_918, s_L_law_919, s_L_law_920, s_L_law_921, s_L_law_922, s_L_law_923, s_L_law_926, s_L_law_927, s_L_law_928, s_L_law_929, s_L_law_930, s_L_law_931, s_L_law_932, s_L_law_933, s_L_law_934, s_L_law_935, s_L_law_936, s_L_law_937, s_L_law_938, s_L_law_939, s_L_law_940, s_L_law_941, s_L_law_942, s_L_law_943, s_L_law_944, s_L_law_945, s_L_law_946, s_L_law_947, s_L_law_948, s_L_law_949, s_L_law_950, s_L_law_951, s_L_law_952, s_L_law_955, s_L_law_956, s_L_law_959, s_L_law_960, zS_m2, zS_213, hx1, iadd_ok, lcmp_eq]
  refine r_would (MI_K hm f1) hG (fun m2 i2 f2 => ?_)
  have hx2 : ∀ j, m2 (-2) j = xs j := fun j => by rw [f2.1 (-2) (by omega)]; exact hx1 j
  simp (disch := first | assumption | omega | (simp (disch := omega) only [gU_row, gU_same, gU_i, gCp_row] <;> omega)) only [↓reduceIte, Option.toList_some, Option.toList_none, List.cons_append, List.nil_append, List.singleton_append, List.append_nil, true_and, and_true, true_or, or_true, andT, iteT, iteF, itT, itF, s_L_law_897, s_L_law_898, s_L_law_899, s_L_law_900, s_L_law_901, s_L_law_902, s_L_law_903, s_L_law_904, s_L_law_905, s_L_law_906, s_L_law_907, s_L_law_908, s_L_law_909, s_L_law_910, s_L_law_911, s_L_law_912, s_L_law_913, s_L_law_914, s_L_law_915, s_L_law_916, s_L_law_917, s_L_law_918, s_L_law_919, s_L_law_920, s_L_law_921, s_L_law_922, s_L_law_923, s_L_law_926, s_L_law_927, s_L_law_928, s_L_law_929, s_L_law_930, s_L_law_931, s_L_law_932, s_L_law_933, s_L_law_934, s_L_law_935, s_L_law_936, s_L_law_937, s_L_law_938, s_L_law_939, s_L_law_940, s_L_law_941, s_L_law_942, s_L_law_943, s_L_law_944, s_L_law_945, s_L_law_946, s_L_law_947, s_L_law_948, s_L_law_949, s_L_law_950, s_L_law_951, s_L_law_952, s_L_law_955, s_L_law_956, s_L_law_959, s_L_law_960, zS_m2, zS_213, hx2, iadd_ok, lcmp_eq]
  exact nxt m2 X Y (LI_1 hL c1 f1 i2 f2 (hG))
set_option maxHeartbeats 400000 in
theorem lw_20 [NeZero (z % 2)] (hL : LIx xs m X Y b kb T S) (i0 : 0 ≤ i) (i7 : i + 7 ≤ L) (l9 : (L : Int) ≤ 2147483647) (hox : ∀ j, okI (xs j)) (nxt : ∀ m' X' Y', LI xs m' X' Y' → R (d + 70) M_L_law 1472 [(2, -2), (2, 0), (2, 213), (0, i)] [] (w0 L z X' Y') m' K) : R (d + 70) M_L_law 961 [(2, -2), (2, 0), (2, 213), (0, i)] [] (w0 L z X Y) m K := by
  have hL' := hL
  obtain ⟨hc, hm, hG, ⟨q1, q2, q3⟩, ⟨t1, t2, t3⟩, s1, s2, s3⟩ := hL'
  have hst := hc.2.2.2.2.2
  have hx : ∀ j, m (-2) j = xs j := fun j => by rw [hst (-2) (by omega)]; rfl
  rw [s_L_law_961]
  simp (disch := first | assumption | omega | (simp (disch := omega) only [gU_row, gU_same, gU_i, gCp_row] <;> omega)) only [↓reduceIte, Option.toList_some, Option.toList_none, List.cons_append, List.nil_append, List.singleton_append, List.append_nil, true_and, and_true, true_or, or_true, andT, iteT, iteF, itT, itF, s_L_law_961, s_L_law_962, s_L_law_963, s_L_law_964, s_L_law_965, s_L_law_966, s_L_law_967, s_L_law_968, s_L_law_969, s_L_law_970, s_L_law_971, s_L_law_972, s_L_law_975, s_L_law_976, s_L_law_977, s_L_law_978, s_L_law_979, s_L_law_980, s_L_law_981, s_L_law_982, s_L_law_983, s_L_law_984, s_L_law_985, s_L_law_986, s_L_law_989, s_L_law_992, s_L_law_993, zS_m2, zS_0, hx, iadd_ok]
  refine p_hedge hc hG (fun m1 c1 f1 => ?_)
  have hx1 : ∀ j, m1 (-2) j = xs j := fun j => by rw [c1.2.2.2.2.2 (-2) (by omega)]; rfl
  simp (disch := first | assumption | omega | (simp (disch := omega) only [gU_row, gU_same, gU_i, gCp_row] <;> omega)) only [↓reduceIte, Option.toList_some, Option.toList_none, List.cons_append, List.nil_append, List.singleton_append, List.append_nil, true_and, and_true, true_or, or_true, andT, iteT, iteF, itT, itF, s_L_law_961, s_L_law_962, s_L_law_963, s_L_law_964, s_L_law_965, s_L_law_966, s_L_law_967, s_L_law_968, s_L_law_969, s_L_law_970, s_L_law_971, s_L_law_972, s_L_law_975, s_L_law_976, s_L_law_977, s_L_law_978, s_L_law_979, s_L_law_980, s_L_law_981, s_L_law_982, s_L_law_983, s_L_law_984, s_L_law_985, s_L_law_986, s_L_law_989, s_L_law_992, s_L_law_993, zS_m2, zS_213, hx1, iadd_ok, lcmp_eq]
  refine r_hedge (MI_K hm f1) hG (fun m2 i2 f2 => ?_)
  have hx2 : ∀ j, m2 (-2) j = xs j := fun j => by rw [f2.1 (-2) (by omega)]; exact hx1 j
  simp (disch := first | assumption | omega | (simp (disch := omega) only [gU_row, gU_same, gU_i, gCp_row] <;> omega)) only [↓reduceIte, Option.toList_some, Option.toList_none, List.cons_append, List.nil_append, List.singleton_append, List.append_nil, true_and, and_true, true_or, or_true, andT, iteT, iteF, itT, itF, s_L_law_961, s_L_law_962, s_L_law_963, s_L_law_964, s_L_law_965, s_L_law_966, s_L_law_967, s_L_law_968, s_L_law_969, s_L_law_970, s_L_law_971, s_L_law_972, s_L_law_975, s_L_law_976, s_L_law_977, s_L_law_978, s_L_law_979, s_L_law_980, s_L_law_981, s_L_law_982, s_L_law_983, s_L_law_984, s_L_law_985, s_L_law_986, s_L_law_989, s_L_law_992, s_L_law_993, zS_m2, zS_213, hx2, iadd_ok, lcmp_eq]
  exact nxt m2 X Y (LI_1 hL c1 f1 i2 f2 (hG))
set_option maxHeartbeats 400000 in
theorem lw_21 [NeZero (z % 2)] (hL : LIx xs m X Y b kb T S) (i0 : 0 ≤ i) (i7 : i + 7 ≤ L) (l9 : (L : Int) ≤ 2147483647) (hox : ∀ j, okI (xs j)) (nxt : ∀ m' X' Y', LI xs m' X' Y' → R (d + 70) M_L_law 1472 [(2, -2), (2, 0), (2, 213), (0, i)] [] (w0 L z X' Y') m' K) : R (d + 70) M_L_law 994 [(2, -2), (2, 0), (2, 213), (0, i)] [] (w0 L z X Y) m K := by
  have hL' := hL
  obtain ⟨hc, hm, hG, ⟨q1, q2, q3⟩, ⟨t1, t2, t3⟩, s1, s2, s3⟩ := hL'
  have hst := hc.2.2.2.2.2
  have hx : ∀ j, m (-2) j = xs j := fun j => by rw [hst (-2) (by omega)]; rfl
  rw [s_L_law_994]
  simp (disch := first | assumption | omega | (simp (disch := omega) only [gU_row, gU_same, gU_i, gCp_row] <;> omega)) only [↓reduceIte, Option.toList_some, Option.toList_none, List.cons_append, List.nil_append, List.singleton_append, List.append_nil, true_and, and_true, true_or, or_true, andT, iteT, iteF, itT, itF, s_L_law_994, s_L_law_995, s_L_law_996, s_L_law_997, s_L_law_998, s_L_law_999, s_L_law_1000, s_L_law_1001, s_L_law_1002, s_L_law_1003, s_L_law_1004, s_L_law_1005, s_L_law_1008, s_L_law_1009, s_L_law_1010, s_L_law_1011, s_L_law_1012, s_L_law_1013, s_L_law_1014, s_L_law_1015, s_L_law_1016, s_L_law_1017, s_L_law_1018, s_L_law_1019, s_L_law_1022, s_L_law_1023, s_L_law_1026, s_L_law_1027, zS_m2, zS_0, hx, iadd_ok]
  refine p_share hc hG ?_
  simp (disch := first | assumption | omega | (simp (disch := omega) only [gU_row, gU_same, gU_i, gCp_row] <;> omega)) only [↓reduceIte, Option.toList_some, Option.toList_none, List.cons_append, List.nil_append, List.singleton_append, List.append_nil, true_and, and_true, true_or, or_true, andT, iteT, iteF, itT, itF, s_L_law_994, s_L_law_995, s_L_law_996, s_L_law_997, s_L_law_998, s_L_law_999, s_L_law_1000, s_L_law_1001, s_L_law_1002, s_L_law_1003, s_L_law_1004, s_L_law_1005, s_L_law_1008, s_L_law_1009, s_L_law_1010, s_L_law_1011, s_L_law_1012, s_L_law_1013, s_L_law_1014, s_L_law_1015, s_L_law_1016, s_L_law_1017, s_L_law_1018, s_L_law_1019, s_L_law_1022, s_L_law_1023, s_L_law_1026, s_L_law_1027, zS_m2, zS_213, hx, iadd_ok, lcmp_eq]
  refine r_share hm hG ?_
  simp (disch := first | assumption | omega | (simp (disch := omega) only [gU_row, gU_same, gU_i, gCp_row] <;> omega)) only [↓reduceIte, Option.toList_some, Option.toList_none, List.cons_append, List.nil_append, List.singleton_append, List.append_nil, true_and, and_true, true_or, or_true, andT, iteT, iteF, itT, itF, s_L_law_994, s_L_law_995, s_L_law_996, s_L_law_997, s_L_law_998, s_L_law_999, s_L_law_1000, s_L_law_1001, s_L_law_1002, s_L_law_1003, s_L_law_1004, s_L_law_1005, s_L_law_1008, s_L_law_1009, s_L_law_1010, s_L_law_1011, s_L_law_1012, s_L_law_1013, s_L_law_1014, s_L_law_1015, s_L_law_1016, s_L_law_1017, s_L_law_1018, s_L_law_1019, s_L_law_1022, s_L_law_1023, s_L_law_1026, s_L_law_1027, zS_m2, zS_213, hx, iadd_ok, lcmp_eq]
  exact nxt m X Y ⟨b, kb, T, S, hL⟩
set_option maxHeartbeats 400000 in
theorem lw_22 [NeZero (z % 2)] (hL : LIx xs m X Y b kb T S) (i0 : 0 ≤ i) (i7 : i + 7 ≤ L) (l9 : (L : Int) ≤ 2147483647) (hox : ∀ j, okI (xs j)) (nxt : ∀ m' X' Y', LI xs m' X' Y' → R (d + 70) M_L_law 1472 [(2, -2), (2, 0), (2, 213), (0, i)] [] (w0 L z X' Y') m' K) : R (d + 70) M_L_law 1028 [(2, -2), (2, 0), (2, 213), (0, i)] [] (w0 L z X Y) m K := by
  have hL' := hL
  obtain ⟨hc, hm, hG, ⟨q1, q2, q3⟩, ⟨t1, t2, t3⟩, s1, s2, s3⟩ := hL'
  have hst := hc.2.2.2.2.2
  have hx : ∀ j, m (-2) j = xs j := fun j => by rw [hst (-2) (by omega)]; rfl
  rw [s_L_law_1028]
  simp (disch := first | assumption | omega | (simp (disch := omega) only [gU_row, gU_same, gU_i, gCp_row] <;> omega)) only [↓reduceIte, Option.toList_some, Option.toList_none, List.cons_append, List.nil_append, List.singleton_append, List.append_nil, true_and, and_true, true_or, or_true, andT, iteT, iteF, itT, itF, s_L_law_1028, s_L_law_1029, s_L_law_1030, s_L_law_1031, s_L_law_1032, s_L_law_1033, s_L_law_1034, s_L_law_1035, s_L_law_1036, s_L_law_1037, s_L_law_1038, s_L_law_1039, s_L_law_1042, s_L_law_1043, s_L_law_1044, s_L_law_1045, s_L_law_1046, s_L_law_1047, s_L_law_1048, s_L_law_1049, s_L_law_1050, s_L_law_1051, s_L_law_1052, s_L_law_1053, s_L_law_1056, s_L_law_1059, s_L_law_1060, zS_m2, zS_0, hx, iadd_ok]
  refine p_see hc (fun m1 c1 f1 => ?_)
  have hx1 : ∀ j, m1 (-2) j = xs j := fun j => by rw [c1.2.2.2.2.2 (-2) (by omega)]; rfl
  simp (disch := first | assumption | omega | (simp (disch := omega) only [gU_row, gU_same, gU_i, gCp_row] <;> omega)) only [↓reduceIte, Option.toList_some, Option.toList_none, List.cons_append, List.nil_append, List.singleton_append, List.append_nil, true_and, and_true, true_or, or_true, andT, iteT, iteF, itT, itF, s_L_law_1028, s_L_law_1029, s_L_law_1030, s_L_law_1031, s_L_law_1032, s_L_law_1033, s_L_law_1034, s_L_law_1035, s_L_law_1036, s_L_law_1037, s_L_law_1038, s_L_law_1039, s_L_law_1042, s_L_law_1043, s_L_law_1044, s_L_law_1045, s_L_law_1046, s_L_law_1047, s_L_law_1048, s_L_law_1049, s_L_law_1050, s_L_law_1051, s_L_law_1052, s_L_law_1053, s_L_law_1056, s_L_law_1059, s_L_law_1060, zS_m2, zS_213, hx1, iadd_ok, lcmp_eq]
  refine r_see (MI_K hm f1) hG (fun m2 i2 f2 => ?_)
  have hx2 : ∀ j, m2 (-2) j = xs j := fun j => by rw [f2.1 (-2) (by omega)]; exact hx1 j
  simp (disch := first | assumption | omega | (simp (disch := omega) only [gU_row, gU_same, gU_i, gCp_row] <;> omega)) only [↓reduceIte, Option.toList_some, Option.toList_none, List.cons_append, List.nil_append, List.singleton_append, List.append_nil, true_and, and_true, true_or, or_true, andT, iteT, iteF, itT, itF, s_L_law_1028, s_L_law_1029, s_L_law_1030, s_L_law_1031, s_L_law_1032, s_L_law_1033, s_L_law_1034, s_L_law_1035, s_L_law_1036, s_L_law_1037, s_L_law_1038, s_L_law_1039, s_L_law_1042, s_L_law_1043, s_L_law_1044, s_L_law_1045, s_L_law_1046, s_L_law_1047, s_L_law_1048, s_L_law_1049, s_L_law_1050, s_L_law_1051, s_L_law_1052, s_L_law_1053, s_L_law_1056, s_L_law_1059, s_L_law_1060, zS_m2, zS_213, hx2, iadd_ok, lcmp_eq]
  exact nxt m2 X Y (LI_1 hL c1 f1 i2 f2 (GB_see hG (hox _).2))
set_option maxHeartbeats 400000 in
theorem lw_23 [NeZero (z % 2)] (hL : LIx xs m X Y b kb T S) (i0 : 0 ≤ i) (i7 : i + 7 ≤ L) (l9 : (L : Int) ≤ 2147483647) (hox : ∀ j, okI (xs j)) (nxt : ∀ m' X' Y', LI xs m' X' Y' → R (d + 70) M_L_law 1472 [(2, -2), (2, 0), (2, 213), (0, i)] [] (w0 L z X' Y') m' K) : R (d + 70) M_L_law 1061 [(2, -2), (2, 0), (2, 213), (0, i)] [] (w0 L z X Y) m K := by
  have hL' := hL
  obtain ⟨hc, hm, hG, ⟨q1, q2, q3⟩, ⟨t1, t2, t3⟩, s1, s2, s3⟩ := hL'
  have hst := hc.2.2.2.2.2
  have hx : ∀ j, m (-2) j = xs j := fun j => by rw [hst (-2) (by omega)]; rfl
  rw [s_L_law_1061]
  simp (disch := first | assumption | omega | (simp (disch := omega) only [gU_row, gU_same, gU_i, gCp_row] <;> omega)) only [↓reduceIte, Option.toList_some, Option.toList_none, List.cons_append, List.nil_append, List.singleton_append, List.append_nil, true_and, and_true, true_or, or_true, andT, iteT, iteF, itT, itF, s_L_law_1061, s_L_law_1062, s_L_law_1063, s_L_law_1064, s_L_law_1065, s_L_law_1066, s_L_law_1067, s_L_law_1070, s_L_law_1071, s_L_law_1072, s_L_law_1073, s_L_law_1074, s_L_law_1075, s_L_law_1076, s_L_law_1079, s_L_law_1082, s_L_law_1083, zS_m2, zS_0, hx, iadd_ok]
  refine p_fits hc hG (fun m1 c1 f1 => ?_)
  have hx1 : ∀ j, m1 (-2) j = xs j := fun j => by rw [c1.2.2.2.2.2 (-2) (by omega)]; rfl
  simp (disch := first | assumption | omega | (simp (disch := omega) only [gU_row, gU_same, gU_i, gCp_row] <;> omega)) only [↓reduceIte, Option.toList_some, Option.toList_none, List.cons_append, List.nil_append, List.singleton_append, List.append_nil, true_and, and_true, true_or, or_true, andT, iteT, iteF, itT, itF, s_L_law_1061, s_L_law_1062, s_L_law_1063, s_L_law_1064, s_L_law_1065, s_L_law_1066, s_L_law_1067, s_L_law_1070, s_L_law_1071, s_L_law_1072, s_L_law_1073, s_L_law_1074, s_L_law_1075, s_L_law_1076, s_L_law_1079, s_L_law_1082, s_L_law_1083, zS_m2, zS_213, hx1, iadd_ok, lcmp_eq]
  refine r_fits (MI_K hm f1) hG (fun m2 i2 f2 => ?_)
  have hx2 : ∀ j, m2 (-2) j = xs j := fun j => by rw [f2.1 (-2) (by omega)]; exact hx1 j
  simp (disch := first | assumption | omega | (simp (disch := omega) only [gU_row, gU_same, gU_i, gCp_row] <;> omega)) only [↓reduceIte, Option.toList_some, Option.toList_none, List.cons_append, List.nil_append, List.singleton_append, List.append_nil, true_and, and_true, true_or, or_true, andT, iteT, iteF, itT, itF, s_L_law_1061, s_L_law_1062, s_L_law_1063, s_L_law_1064, s_L_law_1065, s_L_law_1066, s_L_law_1067, s_L_law_1070, s_L_law_1071, s_L_law_1072, s_L_law_1073, s_L_law_1074, s_L_law_1075, s_L_law_1076, s_L_law_1079, s_L_law_1082, s_L_law_1083, zS_m2, zS_213, hx2, iadd_ok, lcmp_eq]
  exact nxt m2 X Y (LI_1 hL c1 f1 i2 f2 (hG))
set_option maxHeartbeats 400000 in
theorem lw_24 [NeZero (z % 2)] (hL : LIx xs m X Y b kb T S) (i0 : 0 ≤ i) (i7 : i + 7 ≤ L) (l9 : (L : Int) ≤ 2147483647) (hox : ∀ j, okI (xs j)) (nxt : ∀ m' X' Y', LI xs m' X' Y' → R (d + 70) M_L_law 1472 [(2, -2), (2, 0), (2, 213), (0, i)] [] (w0 L z X' Y') m' K) : R (d + 70) M_L_law 1084 [(2, -2), (2, 0), (2, 213), (0, i)] [] (w0 L z X Y) m K := by
  have hL' := hL
  obtain ⟨hc, hm, hG, ⟨q1, q2, q3⟩, ⟨t1, t2, t3⟩, s1, s2, s3⟩ := hL'
  have hst := hc.2.2.2.2.2
  have hx : ∀ j, m (-2) j = xs j := fun j => by rw [hst (-2) (by omega)]; rfl
  rw [s_L_law_1084]
  simp (disch := first | assumption | omega | (simp (disch := omega) only [gU_row, gU_same, gU_i, gCp_row] <;> omega)) only [↓reduceIte, Option.toList_some, Option.toList_none, List.cons_append, List.nil_append, List.singleton_append, List.append_nil, true_and, and_true, true_or, or_true, andT, iteT, iteF, itT, itF, s_L_law_1084, s_L_law_1085, s_L_law_1086, s_L_law_1087, s_L_law_1088, s_L_law_1089, s_L_law_1090, s_L_law_1091, s_L_law_1092, s_L_law_1093, s_L_law_1094, s_L_law_1095, s_L_law_1098, s_L_law_1099, s_L_law_1100, s_L_law_1101, s_L_law_1102, s_L_law_1103, s_L_law_1104, s_L_law_1105, s_L_law_1106, s_L_law_1107, s_L_law_1108, s_L_law_1109, s_L_law_1112, s_L_law_1115, s_L_law_1116, zS_m2, zS_0, hx, iadd_ok]
  refine p_plan hc (fun m1 c1 f1 => ?_)
  have hx1 : ∀ j, m1 (-2) j = xs j := fun j => by rw [c1.2.2.2.2.2 (-2) (by omega)]; rfl
  simp (disch := first | assumption | omega | (simp (disch := omega) only [gU_row, gU_same, gU_i, gCp_row] <;> omega)) only [↓reduceIte, Option.toList_some, Option.toList_none, List.cons_append, List.nil_append, List.singleton_append, List.append_nil, true_and, and_true, true_or, or_true, andT, iteT, iteF, itT, itF, s_L_law_1084, s_L_law_1085, s_L_law_1086, s_L_law_1087, s_L_law_1088, s_L_law_1089, s_L_law_1090, s_L_law_1091, s_L_law_1092, s_L_law_1093, s_L_law_1094, s_L_law_1095, s_L_law_1098, s_L_law_1099, s_L_law_1100, s_L_law_1101, s_L_law_1102, s_L_law_1103, s_L_law_1104, s_L_law_1105, s_L_law_1106, s_L_law_1107, s_L_law_1108, s_L_law_1109, s_L_law_1112, s_L_law_1115, s_L_law_1116, zS_m2, zS_213, hx1, iadd_ok, lcmp_eq]
  refine r_plan (MI_K hm f1) hG (fun m2 i2 f2 => ?_)
  have hx2 : ∀ j, m2 (-2) j = xs j := fun j => by rw [f2.1 (-2) (by omega)]; exact hx1 j
  simp (disch := first | assumption | omega | (simp (disch := omega) only [gU_row, gU_same, gU_i, gCp_row] <;> omega)) only [↓reduceIte, Option.toList_some, Option.toList_none, List.cons_append, List.nil_append, List.singleton_append, List.append_nil, true_and, and_true, true_or, or_true, andT, iteT, iteF, itT, itF, s_L_law_1084, s_L_law_1085, s_L_law_1086, s_L_law_1087, s_L_law_1088, s_L_law_1089, s_L_law_1090, s_L_law_1091, s_L_law_1092, s_L_law_1093, s_L_law_1094, s_L_law_1095, s_L_law_1098, s_L_law_1099, s_L_law_1100, s_L_law_1101, s_L_law_1102, s_L_law_1103, s_L_law_1104, s_L_law_1105, s_L_law_1106, s_L_law_1107, s_L_law_1108, s_L_law_1109, s_L_law_1112, s_L_law_1115, s_L_law_1116, zS_m2, zS_213, hx2, iadd_ok, lcmp_eq]
  exact nxt m2 X Y (LI_1 hL c1 f1 i2 f2 (GB_plan hG (BK_s3 hc.2.1).2 (BK_s1 hc.2.1).2))
set_option maxHeartbeats 400000 in
theorem lw_25 [NeZero (z % 2)] (hL : LIx xs m X Y b kb T S) (i0 : 0 ≤ i) (i7 : i + 7 ≤ L) (l9 : (L : Int) ≤ 2147483647) (hox : ∀ j, okI (xs j)) (nxt : ∀ m' X' Y', LI xs m' X' Y' → R (d + 70) M_L_law 1472 [(2, -2), (2, 0), (2, 213), (0, i)] [] (w0 L z X' Y') m' K) : R (d + 70) M_L_law 1117 [(2, -2), (2, 0), (2, 213), (0, i)] [] (w0 L z X Y) m K := by
  have hL' := hL
  obtain ⟨hc, hm, hG, ⟨q1, q2, q3⟩, ⟨t1, t2, t3⟩, s1, s2, s3⟩ := hL'
  have hst := hc.2.2.2.2.2
  have hx : ∀ j, m (-2) j = xs j := fun j => by rw [hst (-2) (by omega)]; rfl
  rw [s_L_law_1117]
  simp (disch := first | assumption | omega | (simp (disch := omega) only [gU_row, gU_same, gU_i, gCp_row] <;> omega)) only [↓reduceIte, Option.toList_some, Option.toList_none, List.cons_append, List.nil_append, List.singleton_append, List.append_nil, true_and, and_true, true_or, or_true, andT, iteT, iteF, itT, itF, s_L_law_1117, s_L_law_1118, s_L_law_1121, s_L_law_1122, s_L_law_1125, s_L_law_1126, s_L_law_1129, s_L_law_1130, zS_m2, zS_0, hx, iadd_ok]
  refine p_ends hc hG (fun m1 c1 f1 => ?_)
  have hx1 : ∀ j, m1 (-2) j = xs j := fun j => by rw [c1.2.2.2.2.2 (-2) (by omega)]; rfl
  simp (disch := first | assumption | omega | (simp (disch := omega) only [gU_row, gU_same, gU_i, gCp_row] <;> omega)) only [↓reduceIte, Option.toList_some, Option.toList_none, List.cons_append, List.nil_append, List.singleton_append, List.append_nil, true_and, and_true, true_or, or_true, andT, iteT, iteF, itT, itF, s_L_law_1117, s_L_law_1118, s_L_law_1121, s_L_law_1122, s_L_law_1125, s_L_law_1126, s_L_law_1129, s_L_law_1130, zS_m2, zS_213, hx1, iadd_ok, lcmp_eq]
  refine r_ends (MI_K hm f1) hG (fun m2 i2 f2 => ?_)
  have hx2 : ∀ j, m2 (-2) j = xs j := fun j => by rw [f2.1 (-2) (by omega)]; exact hx1 j
  simp (disch := first | assumption | omega | (simp (disch := omega) only [gU_row, gU_same, gU_i, gCp_row] <;> omega)) only [↓reduceIte, Option.toList_some, Option.toList_none, List.cons_append, List.nil_append, List.singleton_append, List.append_nil, true_and, and_true, true_or, or_true, andT, iteT, iteF, itT, itF, s_L_law_1117, s_L_law_1118, s_L_law_1121, s_L_law_1122, s_L_law_1125, s_L_law_1126, s_L_law_1129, s_L_law_1130, zS_m2, zS_213, hx2, iadd_ok, lcmp_eq]
  exact nxt m2 X Y (LI_1 hL c1 f1 i2 f2 (hG))
set_option maxHeartbeats 400000 in
theorem lw_26 [NeZero (z % 2)] (hL : LIx xs m X Y b kb T S) (i0 : 0 ≤ i) (i7 : i + 7 ≤ L) (l9 : (L : Int) ≤ 2147483647) (hox : ∀ j, okI (xs j)) (nxt : ∀ m' X' Y', LI xs m' X' Y' → R (d + 70) M_L_law 1472 [(2, -2), (2, 0), (2, 213), (0, i)] [] (w0 L z X' Y') m' K) : R (d + 70) M_L_law 1131 [(2, -2), (2, 0), (2, 213), (0, i)] [] (w0 L z X Y) m K := by
  have hL' := hL
  obtain ⟨hc, hm, hG, ⟨q1, q2, q3⟩, ⟨t1, t2, t3⟩, s1, s2, s3⟩ := hL'
  have hst := hc.2.2.2.2.2
  have hx : ∀ j, m (-2) j = xs j := fun j => by rw [hst (-2) (by omega)]; rfl
  rw [s_L_law_1131]
  simp (disch := first | assumption | omega | (simp (disch := omega) only [gU_row, gU_same, gU_i, gCp_row] <;> omega)) only [↓reduceIte, Option.toList_some, Option.toList_none, List.cons_append, List.nil_append, List.singleton_append, List.append_nil, true_and, and_true, true_or, or_true, andT, iteT, iteF, itT, itF, s_L_law_1131, s_L_law_1132, s_L_law_1133, s_L_law_1134, s_L_law_1135, s_L_law_1136, s_L_law_1137, s_L_law_1140, s_L_law_1141, s_L_law_1142, s_L_law_1143, s_L_law_1144, s_L_law_1145, s_L_law_1146, s_L_law_1149, s_L_law_1152, s_L_law_1153, zS_m2, zS_0, hx, iadd_ok]
  refine p_feed s1 s3 (fun m1 f1 u1 => ?_)
  have hx1 : ∀ j, m1 (-2) j = xs j := fun j => by rw [f1 (-2) (by omega)]; exact hx j
  simp (disch := first | assumption | omega | (simp (disch := omega) only [gU_row, gU_same, gU_i, gCp_row] <;> omega)) only [↓reduceIte, Option.toList_some, Option.toList_none, List.cons_append, List.nil_append, List.singleton_append, List.append_nil, true_and, and_true, true_or, or_true, andT, iteT, iteF, itT, itF, s_L_law_1131, s_L_law_1132, s_L_law_1133, s_L_law_1134, s_L_law_1135, s_L_law_1136, s_L_law_1137, s_L_law_1140, s_L_law_1141, s_L_law_1142, s_L_law_1143, s_L_law_1144, s_L_law_1145, s_L_law_1146, s_L_law_1149, s_L_law_1152, s_L_law_1153, zS_m2, zS_213, hx1, iadd_ok, lcmp_eq]
  refine r_feed (TXm_fr s2 (by rw [f1 213 (by omega)]) (f1 237 (by omega))) s3 (fun m2 f2 u2 => ?_)
  have hx2 : ∀ j, m2 (-2) j = xs j := fun j => by rw [f2.1 (-2) (by omega) (by omega)]; exact hx1 j
  simp (disch := first | assumption | omega | (simp (disch := omega) only [gU_row, gU_same, gU_i, gCp_row] <;> omega)) only [↓reduceIte, Option.toList_some, Option.toList_none, List.cons_append, List.nil_append, List.singleton_append, List.append_nil, true_and, and_true, true_or, or_true, andT, iteT, iteF, itT, itF, s_L_law_1131, s_L_law_1132, s_L_law_1133, s_L_law_1134, s_L_law_1135, s_L_law_1136, s_L_law_1137, s_L_law_1140, s_L_law_1141, s_L_law_1142, s_L_law_1143, s_L_law_1144, s_L_law_1145, s_L_law_1146, s_L_law_1149, s_L_law_1152, s_L_law_1153, zS_m2, zS_213, hx2, iadd_ok, lcmp_eq]
  exact nxt m2 X Y (LI_F hL f1 u1 f2 u2 (TXo_feed s3))
set_option maxHeartbeats 400000 in
theorem lw_27 [NeZero (z % 2)] (hL : LIx xs m X Y b kb T S) (i0 : 0 ≤ i) (i7 : i + 7 ≤ L) (l9 : (L : Int) ≤ 2147483647) (hox : ∀ j, okI (xs j)) (nxt : ∀ m' X' Y', LI xs m' X' Y' → R (d + 70) M_L_law 1472 [(2, -2), (2, 0), (2, 213), (0, i)] [] (w0 L z X' Y') m' K) : R (d + 70) M_L_law 1154 [(2, -2), (2, 0), (2, 213), (0, i)] [] (w0 L z X Y) m K := by
  have hL' := hL
  obtain ⟨hc, hm, hG, ⟨q1, q2, q3⟩, ⟨t1, t2, t3⟩, s1, s2, s3⟩ := hL'
  have hst := hc.2.2.2.2.2
  have hx : ∀ j, m (-2) j = xs j := fun j => by rw [hst (-2) (by omega)]; rfl
  rw [s_L_law_1154]
  simp (disch := first | assumption | omega | (simp (disch := omega) only [gU_row, gU_same, gU_i, gCp_row] <;> omega)) only [↓reduceIte, Option.toList_some, Option.toList_none, List.cons_append, List.nil_append, List.singleton_append, List.append_nil, true_and, and_true, true_or, or_true, andT, iteT, iteF, itT, itF, s_L_law_1154, s_L_law_1155, s_L_law_1158, s_L_law_1159, s_L_law_1162, s_L_law_1165, s_L_law_1166, zS_m2, zS_0, hx, iadd_ok]
  refine p_read hc hG s1 s3 (fun m1 X1 Y1 c1 g1 f1 u1 => ?_)
  have hx1 : ∀ j, m1 (-2) j = xs j := fun j => by rw [c1.2.2.2.2.2 (-2) (by omega)]; rfl
  simp (disch := first | assumption | omega | (simp (disch := omega) only [gU_row, gU_same, gU_i, gCp_row] <;> omega)) only [↓reduceIte, Option.toList_some, Option.toList_none, List.cons_append, List.nil_append, List.singleton_append, List.append_nil, true_and, and_true, true_or, or_true, andT, iteT, iteF, itT, itF, s_L_law_1154, s_L_law_1155, s_L_law_1158, s_L_law_1159, s_L_law_1162, s_L_law_1165, s_L_law_1166, zS_m2, zS_213, hx1, iadd_ok, lcmp_eq]
  refine r_read (MI_fr hm (fun a h1 h2 _ => f1 a (by omega)) (fun i _ _ => by rw [f1 213 (by omega)])) hG (TXm_fr s2 (by rw [f1 213 (by omega)]) (f1 237 (by omega))) s3 (fun m2 i2 g2 f2 u2 => ?_)
  have hx2 : ∀ j, m2 (-2) j = xs j := fun j => by rw [f2.1 (-2) (by omega)]; exact hx1 j
  simp (disch := first | assumption | omega | (simp (disch := omega) only [gU_row, gU_same, gU_i, gCp_row] <;> omega)) only [↓reduceIte, Option.toList_some, Option.toList_none, List.cons_append, List.nil_append, List.singleton_append, List.append_nil, true_and, and_true, true_or, or_true, andT, iteT, iteF, itT, itF, s_L_law_1154, s_L_law_1155, s_L_law_1158, s_L_law_1159, s_L_law_1162, s_L_law_1165, s_L_law_1166, zS_m2, zS_213, hx2, iadd_ok, lcmp_eq]
  exact nxt m2 X1 Y1 (LI_R hL c1 f1 u1 i2 g1 f2 u2 (TXo_0 s3))
set_option maxHeartbeats 400000 in
theorem lw_28 [NeZero (z % 2)] (hL : LIx xs m X Y b kb T S) (i0 : 0 ≤ i) (i7 : i + 7 ≤ L) (l9 : (L : Int) ≤ 2147483647) (hox : ∀ j, okI (xs j)) (nxt : ∀ m' X' Y', LI xs m' X' Y' → R (d + 70) M_L_law 1472 [(2, -2), (2, 0), (2, 213), (0, i)] [] (w0 L z X' Y') m' K) : R (d + 70) M_L_law 1167 [(2, -2), (2, 0), (2, 213), (0, i)] [] (w0 L z X Y) m K := by
  have hL' := hL
  obtain ⟨hc, hm, hG, ⟨q1, q2, q3⟩, ⟨t1, t2, t3⟩, s1, s2, s3⟩ := hL'
  have hst := hc.2.2.2.2.2
  have hx : ∀ j, m (-2) j = xs j := fun j => by rw [hst (-2) (by omega)]; rfl
  rw [s_L_law_1167]
  simp (disch := first | assumption | omega | (simp (disch := omega) only [gU_row, gU_same, gU_i, gCp_row] <;> omega)) only [↓reduceIte, Option.toList_some, Option.toList_none, List.cons_append, List.nil_append, List.singleton_append, List.append_nil, true_and, and_true, true_or, or_true, andT, iteT, iteF, itT, itF, s_L_law_1167, s_L_law_1168, s_L_law_1169, s_L_law_1170, s_L_law_1171, s_L_law_1172, s_L_law_1173, s_L_law_1174, s_L_law_1175, s_L_law_1176, s_L_law_1177, s_L_law_1178, s_L_law_1179, s_L_law_1180, s_L_law_1181, s_L_law_1182, s_L_law_1183, s_L_law_1186, s_L_law_1187, s_L_law_1188, s_L_law_1189, s_L_law_1190, s_L_law_1191, s_L_law_1192, s_L_law_1193, s_L_law_1194, s_L_law_1195, s_L_law_1196, s_L_law_1197, s_L_law_1198, s_L_law_1199, s_L_law_1200, s_L_law_1201, s_L_law_1202, s_L_law_1205, s_L_law_1208, s_L_law_1209, zS_m2, zS_0, hx, iadd_ok]
  refine p_judge hc t1 t3 (hox _) ?_
  simp (disch := first | assumption | omega | (simp (disch := omega) only [gU_row, gU_same, gU_i, gCp_row] <;> omega)) only [↓reduceIte, Option.toList_some, Option.toList_none, List.cons_append, List.nil_append, List.singleton_append, List.append_nil, true_and, and_true, true_or, or_true, andT, iteT, iteF, itT, itF, s_L_law_1167, s_L_law_1168, s_L_law_1169, s_L_law_1170, s_L_law_1171, s_L_law_1172, s_L_law_1173, s_L_law_1174, s_L_law_1175, s_L_law_1176, s_L_law_1177, s_L_law_1178, s_L_law_1179, s_L_law_1180, s_L_law_1181, s_L_law_1182, s_L_law_1183, s_L_law_1186, s_L_law_1187, s_L_law_1188, s_L_law_1189, s_L_law_1190, s_L_law_1191, s_L_law_1192, s_L_law_1193, s_L_law_1194, s_L_law_1195, s_L_law_1196, s_L_law_1197, s_L_law_1198, s_L_law_1199, s_L_law_1200, s_L_law_1201, s_L_law_1202, s_L_law_1205, s_L_law_1208, s_L_law_1209, zS_m2, zS_213, hx, iadd_ok, lcmp_eq]
  refine r_judge hm t2 t3 (hox _) ?_
  simp (disch := first | assumption | omega | (simp (disch := omega) only [gU_row, gU_same, gU_i, gCp_row] <;> omega)) only [↓reduceIte, Option.toList_some, Option.toList_none, List.cons_append, List.nil_append, List.singleton_append, List.append_nil, true_and, and_true, true_or, or_true, andT, iteT, iteF, itT, itF, s_L_law_1167, s_L_law_1168, s_L_law_1169, s_L_law_1170, s_L_law_1171, s_L_law_1172, s_L_law_1173, s_L_law_1174, s_L_law_1175, s_L_law_1176, s_L_law_1177, s_L_law_1178, s_L_law_1179, s_L_law_1180, s_L_law_1181, s_L_law_1182, s_L_law_1183, s_L_law_1186, s_L_law_1187, s_L_law_1188, s_L_law_1189, s_L_law_1190, s_L_law_1191, s_L_law_1192, s_L_law_1193, s_L_law_1194, s_L_law_1195, s_L_law_1196, s_L_law_1197, s_L_law_1198, s_L_law_1199, s_L_law_1200, s_L_law_1201, s_L_law_1202, s_L_law_1205, s_L_law_1208, s_L_law_1209, zS_m2, zS_213, hx, iadd_ok, lcmp_eq]
  exact nxt m X Y ⟨b, kb, T, S, hL⟩
set_option maxHeartbeats 400000 in
theorem lw_29 [NeZero (z % 2)] (hL : LIx xs m X Y b kb T S) (i0 : 0 ≤ i) (i7 : i + 7 ≤ L) (l9 : (L : Int) ≤ 2147483647) (hox : ∀ j, okI (xs j)) (nxt : ∀ m' X' Y', LI xs m' X' Y' → R (d + 70) M_L_law 1472 [(2, -2), (2, 0), (2, 213), (0, i)] [] (w0 L z X' Y') m' K) : R (d + 70) M_L_law 1210 [(2, -2), (2, 0), (2, 213), (0, i)] [] (w0 L z X Y) m K := by
  have hL' := hL
  obtain ⟨hc, hm, hG, ⟨q1, q2, q3⟩, ⟨t1, t2, t3⟩, s1, s2, s3⟩ := hL'
  have hst := hc.2.2.2.2.2
  have hx : ∀ j, m (-2) j = xs j := fun j => by rw [hst (-2) (by omega)]; rfl
  rw [s_L_law_1210]
  simp (disch := first | assumption | omega | (simp (disch := omega) only [gU_row, gU_same, gU_i, gCp_row] <;> omega)) only [↓reduceIte, Option.toList_some, Option.toList_none, List.cons_append, List.nil_append, List.singleton_append, List.append_nil, true_and, and_true, true_or, or_true, andT, iteT, iteF, itT, itF, s_L_law_1210, s_L_law_1211, s_L_law_1214, s_L_law_1215, s_L_law_1218, s_L_law_1221, s_L_law_1222, zS_m2, zS_0, hx, iadd_ok]
  refine p_image hc (fun m1 c1 f1 e1 => ?_)
  have hx1 : ∀ j, m1 (-2) j = xs j := fun j => by rw [c1.2.2.2.2.2 (-2) (by omega)]; rfl
  simp (disch := first | assumption | omega | (simp (disch := omega) only [gU_row, gU_same, gU_i, gCp_row] <;> omega)) only [↓reduceIte, Option.toList_some, Option.toList_none, List.cons_append, List.nil_append, List.singleton_append, List.append_nil, true_and, and_true, true_or, or_true, andT, iteT, iteF, itT, itF, s_L_law_1210, s_L_law_1211, s_L_law_1214, s_L_law_1215, s_L_law_1218, s_L_law_1221, s_L_law_1222, zS_m2, zS_213, hx1, iadd_ok, lcmp_eq]
  refine r_image (MI_fr hm (fun a h1 h2 _ => f1 a (by omega)) (fun i _ _ => by rw [f1 213 (by omega)])) hG (fun m2 i2 f2 f3 e2 e3 => ?_)
  have hx2 : ∀ j, m2 (-2) j = xs j := fun j => by rw [f2 (-2) (by omega) (by omega)]; exact hx1 j
  simp (disch := first | assumption | omega | (simp (disch := omega) only [gU_row, gU_same, gU_i, gCp_row] <;> omega)) only [↓reduceIte, Option.toList_some, Option.toList_none, List.cons_append, List.nil_append, List.singleton_append, List.append_nil, true_and, and_true, true_or, or_true, andT, iteT, iteF, itT, itF, s_L_law_1210, s_L_law_1211, s_L_law_1214, s_L_law_1215, s_L_law_1218, s_L_law_1221, s_L_law_1222, zS_m2, zS_213, hx2, iadd_ok, lcmp_eq]
  exact nxt m2 X Y (LI_I hL c1 f1 e1 i2 f2 f3 e2 e3)
set_option maxHeartbeats 400000 in
theorem lw_30 [NeZero (z % 2)] (hL : LIx xs m X Y b kb T S) (i0 : 0 ≤ i) (i7 : i + 7 ≤ L) (l9 : (L : Int) ≤ 2147483647) (hox : ∀ j, okI (xs j)) (nxt : ∀ m' X' Y', LI xs m' X' Y' → R (d + 70) M_L_law 1472 [(2, -2), (2, 0), (2, 213), (0, i)] [] (w0 L z X' Y') m' K) : R (d + 70) M_L_law 1223 [(2, -2), (2, 0), (2, 213), (0, i)] [] (w0 L z X Y) m K := by
  have hL' := hL
  obtain ⟨hc, hm, hG, ⟨q1, q2, q3⟩, ⟨t1, t2, t3⟩, s1, s2, s3⟩ := hL'
  have hst := hc.2.2.2.2.2
  have hx : ∀ j, m (-2) j = xs j := fun j => by rw [hst (-2) (by omega)]; rfl
  rw [s_L_law_1223]
  simp (disch := first | assumption | omega | (simp (disch := omega) only [gU_row, gU_same, gU_i, gCp_row] <;> omega)) only [↓reduceIte, Option.toList_some, Option.toList_none, List.cons_append, List.nil_append, List.singleton_append, List.append_nil, true_and, and_true, true_or, or_true, andT, iteT, iteF, itT, itF, s_L_law_1223, s_L_law_1224, s_L_law_1227, s_L_law_1228, s_L_law_1231, s_L_law_1234, s_L_law_1235, zS_m2, zS_0, hx, iadd_ok]
  refine p_undo hc (fun h => (q3 h).1) q1 (fun h0 => ?_) (fun h1 m1 c1 f1 => ?_)
  · simp (disch := first | assumption | omega | (simp (disch := omega) only [gU_row, gU_same, gU_i, gCp_row] <;> omega)) only [↓reduceIte, Option.toList_some, Option.toList_none, List.cons_append, List.nil_append, List.singleton_append, List.append_nil, true_and, and_true, true_or, or_true, andT, iteT, iteF, itT, itF, s_L_law_1223, s_L_law_1224, s_L_law_1227, s_L_law_1228, s_L_law_1231, s_L_law_1234, s_L_law_1235, zS_m2, zS_213, hx, iadd_ok, lcmp_eq]
    refine r_undo (kb := kb) hm (fun h => by omega) (by rw [q2]; exact q1) (fun _ => ?_) (fun h => by omega)
    simp (disch := first | assumption | omega | (simp (disch := omega) only [gU_row, gU_same, gU_i, gCp_row] <;> omega)) only [↓reduceIte, Option.toList_some, Option.toList_none, List.cons_append, List.nil_append, List.singleton_append, List.append_nil, true_and, and_true, true_or, or_true, andT, iteT, iteF, itT, itF, s_L_law_1223, s_L_law_1224, s_L_law_1227, s_L_law_1228, s_L_law_1231, s_L_law_1234, s_L_law_1235, zS_m2, zS_213, hx, iadd_ok, lcmp_eq]
    exact nxt m X Y ⟨b, kb, T, S, hL⟩
  · have hx1 : ∀ j, m1 (-2) j = xs j := fun j => by rw [c1.2.2.2.2.2 (-2) (by omega)]; rfl
    simp (disch := first | assumption | omega | (simp (disch := omega) only [gU_row, gU_same, gU_i, gCp_row] <;> omega)) only [↓reduceIte, Option.toList_some, Option.toList_none, List.cons_append, List.nil_append, List.singleton_append, List.append_nil, true_and, and_true, true_or, or_true, andT, iteT, iteF, itT, itF, s_L_law_1223, s_L_law_1224, s_L_law_1227, s_L_law_1228, s_L_law_1231, s_L_law_1234, s_L_law_1235, zS_m2, zS_213, hx1, iadd_ok, lcmp_eq]
    refine r_undo (kb := kb) (MI_K hm f1) (fun _ => by rw [f1 215 (by omega)]; exact q3 h1) (by rw [f1 213 (by omega), q2]; exact q1) (fun h => by rw [f1 213 (by omega)] at h; omega) (fun _ m2 i2 f2 => ?_)
    have hx2 : ∀ j, m2 (-2) j = xs j := fun j => by rw [f2.1 (-2) (by omega)]; exact hx1 j
    simp (disch := first | assumption | omega | (simp (disch := omega) only [gU_row, gU_same, gU_i, gCp_row] <;> omega)) only [↓reduceIte, Option.toList_some, Option.toList_none, List.cons_append, List.nil_append, List.singleton_append, List.append_nil, true_and, and_true, true_or, or_true, andT, iteT, iteF, itT, itF, s_L_law_1223, s_L_law_1224, s_L_law_1227, s_L_law_1228, s_L_law_1231, s_L_law_1234, s_L_law_1235, zS_m2, zS_213, hx2, iadd_ok, lcmp_eq]
    exact nxt m2 X Y (LI_1 hL c1 f1 i2 f2 (q3 h1).1)
set_option maxHeartbeats 400000 in
theorem lw_31 [NeZero (z % 2)] (hL : LIx xs m X Y b kb T S) (i0 : 0 ≤ i) (i7 : i + 7 ≤ L) (l9 : (L : Int) ≤ 2147483647) (hox : ∀ j, okI (xs j)) (nxt : ∀ m' X' Y', LI xs m' X' Y' → R (d + 70) M_L_law 1472 [(2, -2), (2, 0), (2, 213), (0, i)] [] (w0 L z X' Y') m' K) : R (d + 70) M_L_law 1236 [(2, -2), (2, 0), (2, 213), (0, i)] [] (w0 L z X Y) m K := by
  have hL' := hL
  obtain ⟨hc, hm, hG, ⟨q1, q2, q3⟩, ⟨t1, t2, t3⟩, s1, s2, s3⟩ := hL'
  have hst := hc.2.2.2.2.2
  have hx : ∀ j, m (-2) j = xs j := fun j => by rw [hst (-2) (by omega)]; rfl
  rw [s_L_law_1236]
  simp (disch := first | assumption | omega | (simp (disch := omega) only [gU_row, gU_same, gU_i, gCp_row] <;> omega)) only [↓reduceIte, Option.toList_some, Option.toList_none, List.cons_append, List.nil_append, List.singleton_append, List.append_nil, true_and, and_true, true_or, or_true, andT, iteT, iteF, itT, itF, s_L_law_1236, s_L_law_1237, s_L_law_1238, s_L_law_1239, s_L_law_1240, s_L_law_1241, s_L_law_1242, s_L_law_1245, s_L_law_1246, s_L_law_1247, s_L_law_1248, s_L_law_1249, s_L_law_1250, s_L_law_1251, s_L_law_1254, s_L_law_1257, s_L_law_1258, zS_m2, zS_0, hx, iadd_ok]
  refine p_count hc ?_
  rw [s1.1]
  simp (disch := first | assumption | omega | (simp (disch := omega) only [gU_row, gU_same, gU_i, gCp_row] <;> omega)) only [↓reduceIte, Option.toList_some, Option.toList_none, List.cons_append, List.nil_append, List.singleton_append, List.append_nil, true_and, and_true, true_or, or_true, andT, iteT, iteF, itT, itF, s_L_law_1236, s_L_law_1237, s_L_law_1238, s_L_law_1239, s_L_law_1240, s_L_law_1241, s_L_law_1242, s_L_law_1245, s_L_law_1246, s_L_law_1247, s_L_law_1248, s_L_law_1249, s_L_law_1250, s_L_law_1251, s_L_law_1254, s_L_law_1257, s_L_law_1258, zS_m2, zS_213, hx, iadd_ok, lcmp_eq]
  refine r_count hm hG ?_
  rw [s2.1]
  simp (disch := first | assumption | omega | (simp (disch := omega) only [gU_row, gU_same, gU_i, gCp_row] <;> omega)) only [↓reduceIte, Option.toList_some, Option.toList_none, List.cons_append, List.nil_append, List.singleton_append, List.append_nil, true_and, and_true, true_or, or_true, andT, iteT, iteF, itT, itF, s_L_law_1236, s_L_law_1237, s_L_law_1238, s_L_law_1239, s_L_law_1240, s_L_law_1241, s_L_law_1242, s_L_law_1245, s_L_law_1246, s_L_law_1247, s_L_law_1248, s_L_law_1249, s_L_law_1250, s_L_law_1251, s_L_law_1254, s_L_law_1257, s_L_law_1258, zS_m2, zS_213, hx, iadd_ok, lcmp_eq]
  exact nxt m X Y ⟨b, kb, T, S, hL⟩
set_option maxHeartbeats 400000 in
theorem lw_32 [NeZero (z % 2)] (hL : LIx xs m X Y b kb T S) (i0 : 0 ≤ i) (i7 : i + 7 ≤ L) (l9 : (L : Int) ≤ 2147483647) (hox : ∀ j, okI (xs j)) (nxt : ∀ m' X' Y', LI xs m' X' Y' → R (d + 70) M_L_law 1472 [(2, -2), (2, 0), (2, 213), (0, i)] [] (w0 L z X' Y') m' K) : R (d + 70) M_L_law 1259 [(2, -2), (2, 0), (2, 213), (0, i)] [] (w0 L z X Y) m K := by
  have hL' := hL
  obtain ⟨hc, hm, hG, ⟨q1, q2, q3⟩, ⟨t1, t2, t3⟩, s1, s2, s3⟩ := hL'
  have hst := hc.2.2.2.2.2
  have hx : ∀ j, m (-2) j = xs j := fun j => by rw [hst (-2) (by omega)]; rfl
  rw [s_L_law_1259]
  simp (disch := first | assumption | omega | (simp (disch := omega) only [gU_row, gU_same, gU_i, gCp_row] <;> omega)) only [↓reduceIte, Option.toList_some, Option.toList_none, List.cons_append, List.nil_append, List.singleton_append, List.append_nil, true_and, and_true, true_or, or_true, andT, iteT, iteF, itT, itF, s_L_law_1259, s_L_law_1260, s_L_law_1261, s_L_law_1262, s_L_law_1263, s_L_law_1264, s_L_law_1265, s_L_law_1266, s_L_law_1267, s_L_law_1268, s_L_law_1269, s_L_law_1270, s_L_law_1271, s_L_law_1272, s_L_law_1273, s_L_law_1274, s_L_law_1275, s_L_law_1278, s_L_law_1279, s_L_law_1280, s_L_law_1281, s_L_law_1282, s_L_law_1283, s_L_law_1284, s_L_law_1285, s_L_law_1286, s_L_law_1287, s_L_law_1288, s_L_law_1289, s_L_law_1290, s_L_law_1291, s_L_law_1292, s_L_law_1293, s_L_law_1294, s_L_law_1297, s_L_law_1300, s_L_law_1301, zS_m2, zS_0, hx, iadd_ok]
  refine p_tape t1 (fun m1 f1 u1 => ?_)
  have hx1 : ∀ j, m1 (-2) j = xs j := fun j => by rw [f1 (-2) (by omega)]; exact hx j
  simp (disch := first | assumption | omega | (simp (disch := omega) only [gU_row, gU_same, gU_i, gCp_row] <;> omega)) only [↓reduceIte, Option.toList_some, Option.toList_none, List.cons_append, List.nil_append, List.singleton_append, List.append_nil, true_and, and_true, true_or, or_true, andT, iteT, iteF, itT, itF, s_L_law_1259, s_L_law_1260, s_L_law_1261, s_L_law_1262, s_L_law_1263, s_L_law_1264, s_L_law_1265, s_L_law_1266, s_L_law_1267, s_L_law_1268, s_L_law_1269, s_L_law_1270, s_L_law_1271, s_L_law_1272, s_L_law_1273, s_L_law_1274, s_L_law_1275, s_L_law_1278, s_L_law_1279, s_L_law_1280, s_L_law_1281, s_L_law_1282, s_L_law_1283, s_L_law_1284, s_L_law_1285, s_L_law_1286, s_L_law_1287, s_L_law_1288, s_L_law_1289, s_L_law_1290, s_L_law_1291, s_L_law_1292, s_L_law_1293, s_L_law_1294, s_L_law_1297, s_L_law_1300, s_L_law_1301, zS_m2, zS_213, hx1, iadd_ok, lcmp_eq]
  refine r_tape (TPm_fr t2 (fun a h1 h2 => f1 a (by omega))) (fun m2 f2 u2 => ?_)
  have hx2 : ∀ j, m2 (-2) j = xs j := fun j => by rw [f2 (-2) (by omega)]; exact hx1 j
  simp (disch := first | assumption | omega | (simp (disch := omega) only [gU_row, gU_same, gU_i, gCp_row] <;> omega)) only [↓reduceIte, Option.toList_some, Option.toList_none, List.cons_append, List.nil_append, List.singleton_append, List.append_nil, true_and, and_true, true_or, or_true, andT, iteT, iteF, itT, itF, s_L_law_1259, s_L_law_1260, s_L_law_1261, s_L_law_1262, s_L_law_1263, s_L_law_1264, s_L_law_1265, s_L_law_1266, s_L_law_1267, s_L_law_1268, s_L_law_1269, s_L_law_1270, s_L_law_1271, s_L_law_1272, s_L_law_1273, s_L_law_1274, s_L_law_1275, s_L_law_1278, s_L_law_1279, s_L_law_1280, s_L_law_1281, s_L_law_1282, s_L_law_1283, s_L_law_1284, s_L_law_1285, s_L_law_1286, s_L_law_1287, s_L_law_1288, s_L_law_1289, s_L_law_1290, s_L_law_1291, s_L_law_1292, s_L_law_1293, s_L_law_1294, s_L_law_1297, s_L_law_1300, s_L_law_1301, zS_m2, zS_213, hx2, iadd_ok, lcmp_eq]
  exact nxt m2 X Y (LI_T hL f1 u1 f2 u2 (TPo_tape t3))
set_option maxHeartbeats 400000 in
theorem lw_33 [NeZero (z % 2)] (hL : LIx xs m X Y b kb T S) (i0 : 0 ≤ i) (i7 : i + 7 ≤ L) (l9 : (L : Int) ≤ 2147483647) (hox : ∀ j, okI (xs j)) (nxt : ∀ m' X' Y', LI xs m' X' Y' → R (d + 70) M_L_law 1472 [(2, -2), (2, 0), (2, 213), (0, i)] [] (w0 L z X' Y') m' K) : R (d + 70) M_L_law 1302 [(2, -2), (2, 0), (2, 213), (0, i)] [] (w0 L z X Y) m K := by
  have hL' := hL
  obtain ⟨hc, hm, hG, ⟨q1, q2, q3⟩, ⟨t1, t2, t3⟩, s1, s2, s3⟩ := hL'
  have hst := hc.2.2.2.2.2
  have hx : ∀ j, m (-2) j = xs j := fun j => by rw [hst (-2) (by omega)]; rfl
  rw [s_L_law_1302]
  simp (disch := first | assumption | omega | (simp (disch := omega) only [gU_row, gU_same, gU_i, gCp_row] <;> omega)) only [↓reduceIte, Option.toList_some, Option.toList_none, List.cons_append, List.nil_append, List.singleton_append, List.append_nil, true_and, and_true, true_or, or_true, andT, iteT, iteF, itT, itF, s_L_law_1302, s_L_law_1303, s_L_law_1304, s_L_law_1305, s_L_law_1306, s_L_law_1307, s_L_law_1308, s_L_law_1309, s_L_law_1310, s_L_law_1311, s_L_law_1312, s_L_law_1313, s_L_law_1314, s_L_law_1315, s_L_law_1316, s_L_law_1317, s_L_law_1318, s_L_law_1319, s_L_law_1321, s_L_law_1322, s_L_law_1323, s_L_law_1324, s_L_law_1325, s_L_law_1326, s_L_law_1327, s_L_law_1328, s_L_law_1331, s_L_law_1332, s_L_law_1333, s_L_law_1336, s_L_law_1337, s_L_law_1338, s_L_law_1339, s_L_law_1340, s_L_law_1341, s_L_law_1342, s_L_law_1343, s_L_law_1344, s_L_law_1345, s_L_law_1346, s_L_law_1347, s_L_law_1348, s_L_law_1349, s_L_law_1350, s_L_law_1351, s_L_law_1352, s_L_law_1353, s_L_law_1355, s_L_law_1356, s_L_law_1357, s_L_law_1358, s_L_law_1359, s_L_law_1360, s_L_law_1361, s_L_law_1362, s_L_law_1365, s_L_law_1366, s_L_law_1367, s_L_law_1370, s_L_law_1373, s_L_law_1374, zS_m2, zS_0, hx, iadd_ok]
  refine p_item t1 t3 (fun m1 f1 u1 => ?_)
  have hx1 : ∀ j, m1 (-2) j = xs j := fun j => by rw [f1 (-2) (by omega)]; exact hx j
  simp (disch := first | assumption | omega | (simp (disch := omega) only [gU_row, gU_same, gU_i, gCp_row] <;> omega)) only [↓reduceIte, Option.toList_some, Option.toList_none, List.cons_append, List.nil_append, List.singleton_append, List.append_nil, true_and, and_true, true_or, or_true, andT, iteT, iteF, itT, itF, s_L_law_1302, s_L_law_1303, s_L_law_1304, s_L_law_1305, s_L_law_1306, s_L_law_1307, s_L_law_1308, s_L_law_1309, s_L_law_1310, s_L_law_1311, s_L_law_1312, s_L_law_1313, s_L_law_1314, s_L_law_1315, s_L_law_1316, s_L_law_1317, s_L_law_1318, s_L_law_1319, s_L_law_1321, s_L_law_1322, s_L_law_1323, s_L_law_1324, s_L_law_1325, s_L_law_1326, s_L_law_1327, s_L_law_1328, s_L_law_1331, s_L_law_1332, s_L_law_1333, s_L_law_1336, s_L_law_1337, s_L_law_1338, s_L_law_1339, s_L_law_1340, s_L_law_1341, s_L_law_1342, s_L_law_1343, s_L_law_1344, s_L_law_1345, s_L_law_1346, s_L_law_1347, s_L_law_1348, s_L_law_1349, s_L_law_1350, s_L_law_1351, s_L_law_1352, s_L_law_1353, s_L_law_1355, s_L_law_1356, s_L_law_1357, s_L_law_1358, s_L_law_1359, s_L_law_1360, s_L_law_1361, s_L_law_1362, s_L_law_1365, s_L_law_1366, s_L_law_1367, s_L_law_1370, s_L_law_1373, s_L_law_1374, zS_m2, zS_213, hx1, iadd_ok, lcmp_eq]
  refine r_item (TPm_fr t2 (fun a h1 h2 => f1 a (by omega))) t3 (fun m2 f2 u2 => ?_)
  have hx2 : ∀ j, m2 (-2) j = xs j := fun j => by rw [f2 (-2) (by omega)]; exact hx1 j
  simp (disch := first | assumption | omega | (simp (disch := omega) only [gU_row, gU_same, gU_i, gCp_row] <;> omega)) only [↓reduceIte, Option.toList_some, Option.toList_none, List.cons_append, List.nil_append, List.singleton_append, List.append_nil, true_and, and_true, true_or, or_true, andT, iteT, iteF, itT, itF, s_L_law_1302, s_L_law_1303, s_L_law_1304, s_L_law_1305, s_L_law_1306, s_L_law_1307, s_L_law_1308, s_L_law_1309, s_L_law_1310, s_L_law_1311, s_L_law_1312, s_L_law_1313, s_L_law_1314, s_L_law_1315, s_L_law_1316, s_L_law_1317, s_L_law_1318, s_L_law_1319, s_L_law_1321, s_L_law_1322, s_L_law_1323, s_L_law_1324, s_L_law_1325, s_L_law_1326, s_L_law_1327, s_L_law_1328, s_L_law_1331, s_L_law_1332, s_L_law_1333, s_L_law_1336, s_L_law_1337, s_L_law_1338, s_L_law_1339, s_L_law_1340, s_L_law_1341, s_L_law_1342, s_L_law_1343, s_L_law_1344, s_L_law_1345, s_L_law_1346, s_L_law_1347, s_L_law_1348, s_L_law_1349, s_L_law_1350, s_L_law_1351, s_L_law_1352, s_L_law_1353, s_L_law_1355, s_L_law_1356, s_L_law_1357, s_L_law_1358, s_L_law_1359, s_L_law_1360, s_L_law_1361, s_L_law_1362, s_L_law_1365, s_L_law_1366, s_L_law_1367, s_L_law_1370, s_L_law_1373, s_L_law_1374, zS_m2, zS_213, hx2, iadd_ok, lcmp_eq]
  exact nxt m2 X Y (LI_T hL f1 u1 f2 u2 (TPo_item t3))
set_option maxHeartbeats 400000 in
theorem lw_34 [NeZero (z % 2)] (hL : LIx xs m X Y b kb T S) (i0 : 0 ≤ i) (i7 : i + 7 ≤ L) (l9 : (L : Int) ≤ 2147483647) (hox : ∀ j, okI (xs j)) (nxt : ∀ m' X' Y', LI xs m' X' Y' → R (d + 70) M_L_law 1472 [(2, -2), (2, 0), (2, 213), (0, i)] [] (w0 L z X' Y') m' K) : R (d + 70) M_L_law 1375 [(2, -2), (2, 0), (2, 213), (0, i)] [] (w0 L z X Y) m K := by
  have hL' := hL
  obtain ⟨hc, hm, hG, ⟨q1, q2, q3⟩, ⟨t1, t2, t3⟩, s1, s2, s3⟩ := hL'
  have hst := hc.2.2.2.2.2
  have hx : ∀ j, m (-2) j = xs j := fun j => by rw [hst (-2) (by omega)]; rfl
  rw [s_L_law_1375]
  simp (disch := first | assumption | omega | (simp (disch := omega) only [gU_row, gU_same, gU_i, gCp_row] <;> omega)) only [↓reduceIte, Option.toList_some, Option.toList_none, List.cons_append, List.nil_append, List.singleton_append, List.append_nil, true_and, and_true, true_or, or_true, andT, iteT, iteF, itT, itF, s_L_law_1375, s_L_law_1376, s_L_law_1377, s_L_law_1378, s_L_law_1379, s_L_law_1380, s_L_law_1381, s_L_law_1382, s_L_law_1383, s_L_law_1384, s_L_law_1385, s_L_law_1386, s_L_law_1389, s_L_law_1390, s_L_law_1391, s_L_law_1392, s_L_law_1393, s_L_law_1394, s_L_law_1395, s_L_law_1396, s_L_law_1397, s_L_law_1398, s_L_law_1399, s_L_law_1400, s_L_law_1403, s_L_law_1404, s_L_law_1407, s_L_law_1408, zS_m2, zS_0, hx, iadd_ok]
  refine p_peek t1 t3 ?_
  simp (disch := first | assumption | omega | (simp (disch := omega) only [gU_row, gU_same, gU_i, gCp_row] <;> omega)) only [↓reduceIte, Option.toList_some, Option.toList_none, List.cons_append, List.nil_append, List.singleton_append, List.append_nil, true_and, and_true, true_or, or_true, andT, iteT, iteF, itT, itF, s_L_law_1375, s_L_law_1376, s_L_law_1377, s_L_law_1378, s_L_law_1379, s_L_law_1380, s_L_law_1381, s_L_law_1382, s_L_law_1383, s_L_law_1384, s_L_law_1385, s_L_law_1386, s_L_law_1389, s_L_law_1390, s_L_law_1391, s_L_law_1392, s_L_law_1393, s_L_law_1394, s_L_law_1395, s_L_law_1396, s_L_law_1397, s_L_law_1398, s_L_law_1399, s_L_law_1400, s_L_law_1403, s_L_law_1404, s_L_law_1407, s_L_law_1408, zS_m2, zS_213, hx, iadd_ok, lcmp_eq]
  refine r_peek t2 t3 ?_
  simp (disch := first | assumption | omega | (simp (disch := omega) only [gU_row, gU_same, gU_i, gCp_row] <;> omega)) only [↓reduceIte, Option.toList_some, Option.toList_none, List.cons_append, List.nil_append, List.singleton_append, List.append_nil, true_and, and_true, true_or, or_true, andT, iteT, iteF, itT, itF, s_L_law_1375, s_L_law_1376, s_L_law_1377, s_L_law_1378, s_L_law_1379, s_L_law_1380, s_L_law_1381, s_L_law_1382, s_L_law_1383, s_L_law_1384, s_L_law_1385, s_L_law_1386, s_L_law_1389, s_L_law_1390, s_L_law_1391, s_L_law_1392, s_L_law_1393, s_L_law_1394, s_L_law_1395, s_L_law_1396, s_L_law_1397, s_L_law_1398, s_L_law_1399, s_L_law_1400, s_L_law_1403, s_L_law_1404, s_L_law_1407, s_L_law_1408, zS_m2, zS_213, hx, iadd_ok, lcmp_eq]
  exact nxt m X Y ⟨b, kb, T, S, hL⟩
set_option maxHeartbeats 400000 in
theorem lw_35 [NeZero (z % 2)] (hL : LIx xs m X Y b kb T S) (i0 : 0 ≤ i) (i7 : i + 7 ≤ L) (l9 : (L : Int) ≤ 2147483647) (hox : ∀ j, okI (xs j)) (nxt : ∀ m' X' Y', LI xs m' X' Y' → R (d + 70) M_L_law 1472 [(2, -2), (2, 0), (2, 213), (0, i)] [] (w0 L z X' Y') m' K) : R (d + 70) M_L_law 1409 [(2, -2), (2, 0), (2, 213), (0, i)] [] (w0 L z X Y) m K := by
  have hL' := hL
  obtain ⟨hc, hm, hG, ⟨q1, q2, q3⟩, ⟨t1, t2, t3⟩, s1, s2, s3⟩ := hL'
  have hst := hc.2.2.2.2.2
  have hx : ∀ j, m (-2) j = xs j := fun j => by rw [hst (-2) (by omega)]; rfl
  rw [s_L_law_1409]
  simp (disch := first | assumption | omega | (simp (disch := omega) only [gU_row, gU_same, gU_i, gCp_row] <;> omega)) only [↓reduceIte, Option.toList_some, Option.toList_none, List.cons_append, List.nil_append, List.singleton_append, List.append_nil, true_and, and_true, true_or, or_true, andT, iteT, iteF, itT, itF, s_L_law_1409, s_L_law_1410, s_L_law_1411, s_L_law_1412, s_L_law_1413, s_L_law_1414, s_L_law_1415, s_L_law_1416, s_L_law_1417, s_L_law_1418, s_L_law_1419, s_L_law_1420, s_L_law_1421, s_L_law_1422, s_L_law_1423, s_L_law_1424, s_L_law_1425, s_L_law_1426, s_L_law_1427, s_L_law_1428, s_L_law_1429, s_L_law_1430, s_L_law_1431, s_L_law_1432, s_L_law_1433, s_L_law_1434, s_L_law_1435, s_L_law_1438, s_L_law_1439, s_L_law_1440, s_L_law_1441, s_L_law_1442, s_L_law_1443, s_L_law_1444, s_L_law_1445, s_L_law_1446, s_L_law_1447, s_L_law_1448, s_L_law_1449, s_L_law_1450, s_L_law_1451, s_L_law_1452, s_L_law_1453, s_L_law_1454, s_L_law_1455, s_L_law_1456, s_L_law_1457, s_L_law_1458, s_L_law_1459, s_L_law_1460, s_L_law_1461, s_L_law_1462, s_L_law_1463, s_L_law_1464, s_L_law_1467, s_L_law_1470, s_L_law_1471, zS_m2, zS_0, hx, iadd_ok]
  refine p_shift t1 t3 (hox _) (hox _) (hox _) (fun m1 f1 u1 => ?_)
  have hx1 : ∀ j, m1 (-2) j = xs j := fun j => by rw [f1 (-2) (by omega)]; exact hx j
  simp (disch := first | assumption | omega | (simp (disch := omega) only [gU_row, gU_same, gU_i, gCp_row] <;> omega)) only [↓reduceIte, Option.toList_some, Option.toList_none, List.cons_append, List.nil_append, List.singleton_append, List.append_nil, true_and, and_true, true_or, or_true, andT, iteT, iteF, itT, itF, s_L_law_1409, s_L_law_1410, s_L_law_1411, s_L_law_1412, s_L_law_1413, s_L_law_1414, s_L_law_1415, s_L_law_1416, s_L_law_1417, s_L_law_1418, s_L_law_1419, s_L_law_1420, s_L_law_1421, s_L_law_1422, s_L_law_1423, s_L_law_1424, s_L_law_1425, s_L_law_1426, s_L_law_1427, s_L_law_1428, s_L_law_1429, s_L_law_1430, s_L_law_1431, s_L_law_1432, s_L_law_1433, s_L_law_1434, s_L_law_1435, s_L_law_1438, s_L_law_1439, s_L_law_1440, s_L_law_1441, s_L_law_1442, s_L_law_1443, s_L_law_1444, s_L_law_1445, s_L_law_1446, s_L_law_1447, s_L_law_1448, s_L_law_1449, s_L_law_1450, s_L_law_1451, s_L_law_1452, s_L_law_1453, s_L_law_1454, s_L_law_1455, s_L_law_1456, s_L_law_1457, s_L_law_1458, s_L_law_1459, s_L_law_1460, s_L_law_1461, s_L_law_1462, s_L_law_1463, s_L_law_1464, s_L_law_1467, s_L_law_1470, s_L_law_1471, zS_m2, zS_213, hx1, iadd_ok, lcmp_eq]
  refine r_shift (TPm_fr t2 (fun a h1 h2 => f1 a (by omega))) t3 (hox _) (hox _) (hox _) (fun m2 f2 u2 => ?_)
  have hx2 : ∀ j, m2 (-2) j = xs j := fun j => by rw [f2 (-2) (by omega)]; exact hx1 j
  simp (disch := first | assumption | omega | (simp (disch := omega) only [gU_row, gU_same, gU_i, gCp_row] <;> omega)) only [↓reduceIte, Option.toList_some, Option.toList_none, List.cons_append, List.nil_append, List.singleton_append, List.append_nil, true_and, and_true, true_or, or_true, andT, iteT, iteF, itT, itF, s_L_law_1409, s_L_law_1410, s_L_law_1411, s_L_law_1412, s_L_law_1413, s_L_law_1414, s_L_law_1415, s_L_law_1416, s_L_law_1417, s_L_law_1418, s_L_law_1419, s_L_law_1420, s_L_law_1421, s_L_law_1422, s_L_law_1423, s_L_law_1424, s_L_law_1425, s_L_law_1426, s_L_law_1427, s_L_law_1428, s_L_law_1429, s_L_law_1430, s_L_law_1431, s_L_law_1432, s_L_law_1433, s_L_law_1434, s_L_law_1435, s_L_law_1438, s_L_law_1439, s_L_law_1440, s_L_law_1441, s_L_law_1442, s_L_law_1443, s_L_law_1444, s_L_law_1445, s_L_law_1446, s_L_law_1447, s_L_law_1448, s_L_law_1449, s_L_law_1450, s_L_law_1451, s_L_law_1452, s_L_law_1453, s_L_law_1454, s_L_law_1455, s_L_law_1456, s_L_law_1457, s_L_law_1458, s_L_law_1459, s_L_law_1460, s_L_law_1461, s_L_law_1462, s_L_law_1463, s_L_law_1464, s_L_law_1467, s_L_law_1470, s_L_law_1471, zS_m2, zS_213, hx2, iadd_ok, lcmp_eq]
  exact nxt m2 X Y (LI_T hL f1 u1 f2 u2 (TPo_shift t3))
theorem gSw_c {f : Nat → Prop} {dflt p : Nat} {k a : Int} {l : List (Int × Nat)} (h : a = k → f p) (h2 : gSw f dflt l a) : gSw f dflt ((k, p) :: l) a := by
  unfold gSw
  split
  · rename_i e; exact h e
  · exact h2
set_option maxHeartbeats 1000000 in
theorem lw_loop [NeZero (z % 2)] (l9 : (L : Int) ≤ 2147483647) (hox : ∀ j, okI (xs j)) (hk : ∀ X Y m, K (some (0, 1)) (w0 L z X Y) m) : ∀ (n : Nat) (i X Y : Int) (m : gM), LI xs m X Y → 0 ≤ i → i ≤ (L : Int) + 7 → (L : Int) - i ≤ n → R (d + 70) M_L_law 18 [(2, -2), (2, 0), (2, 213), (0, i)] [] (w0 L z X Y) m K := by
  intro n
  induction n with
  | zero =>
    intro i X Y m hL i0 iL hn
    rw [s_L_law_18]
    simp (disch := first | assumption | omega | (simp (disch := omega) only [gU_row, gU_same, gU_i, gCp_row] <;> omega)) only [↓reduceIte, Option.toList_some, Option.toList_none, List.cons_append, List.nil_append, List.singleton_append, List.append_nil, true_and, and_true, true_or, or_true, andT, iteT, iteF, itT, itF, s_L_law_19, s_L_law_20, s_L_law_21, s_L_law_23, s_L_law_24, s_L_law_27, s_L_law_28, s_L_law_29, s_L_law_30, s_L_law_32, s_L_law_33, s_L_law_1478, s_L_law_1479, zS_m2, isub_ok]
    exact hk _ _ _
  | succ n ih =>
    intro i X Y m hL i0 iL hn
    by_cases h7 : i + 7 ≤ (L : Int)
    · obtain ⟨b, kb, T, S, hL⟩ := hL
      have hst := hL.1.2.2.2.2.2
      have hx : ∀ j, m (-2) j = xs j := fun j => by rw [hst (-2) (by omega)]; rfl
      have nxt : ∀ m' X' Y', LI xs m' X' Y' → R (d + 70) M_L_law 1472 [(2, -2), (2, 0), (2, 213), (0, i)] [] (w0 L z X' Y') m' K := fun m' X' Y' h => by
        have := ih (i + 7) X' Y' m' h (by omega) (by omega) (by omega)
        rw [s_L_law_1472]
        simp (disch := first | assumption | omega | (simp (disch := omega) only [gU_row, gU_same, gU_i, gCp_row] <;> omega)) only [↓reduceIte, Option.toList_some, Option.toList_none, List.cons_append, List.nil_append, List.singleton_append, List.append_nil, true_and, and_true, true_or, or_true, andT, iteT, iteF, itT, itF, s_L_law_1475, iadd_ok]
        exact this
      have dflt := nxt m X Y ⟨b, kb, T, S, hL⟩
      rw [s_L_law_18]
      simp (disch := first | assumption | omega | (simp (disch := omega) only [gU_row, gU_same, gU_i, gCp_row] <;> omega)) only [↓reduceIte, Option.toList_some, Option.toList_none, List.cons_append, List.nil_append, List.singleton_append, List.append_nil, true_and, and_true, true_or, or_true, andT, iteT, iteF, itT, itF, s_L_law_19, s_L_law_20, s_L_law_21, s_L_law_23, s_L_law_24, s_L_law_27, s_L_law_28, s_L_law_29, s_L_law_30, s_L_law_32, zS_m2, isub_ok, hx]
      rw [s_L_law_33]
      refine gSw_c (fun _ => lw_0 hL i0 h7 l9 hox nxt) ?_
      refine gSw_c (fun _ => lw_1 hL i0 h7 l9 hox nxt) ?_
      refine gSw_c (fun _ => lw_2 hL i0 h7 l9 hox nxt) ?_
      refine gSw_c (fun _ => lw_3 hL i0 h7 l9 hox nxt) ?_
      refine gSw_c (fun _ => lw_4 hL i0 h7 l9 hox nxt) ?_
      refine gSw_c (fun _ => lw_5 hL i0 h7 l9 hox nxt) ?_
      refine gSw_c (fun _ => lw_6 hL i0 h7 l9 hox nxt) ?_
      refine gSw_c (fun _ => lw_7 hL i0 h7 l9 hox nxt) ?_
      refine gSw_c (fun _ => lw_8 hL i0 h7 l9 hox nxt) ?_
      refine gSw_c (fun _ => lw_9 hL i0 h7 l9 hox nxt) ?_
      refine gSw_c (fun _ => lw_10 hL i0 h7 l9 hox nxt) ?_
      refine gSw_c (fun _ => lw_11 hL i0 h7 l9 hox nxt) ?_
      refine gSw_c (fun _ => lw_12 hL i0 h7 l9 hox nxt) ?_
      refine gSw_c (fun _ => lw_13 hL i0 h7 l9 hox nxt) ?_
      refine gSw_c (fun _ => lw_14 hL i0 h7 l9 hox nxt) ?_
      refine gSw_c (fun _ => lw_15 hL i0 h7 l9 hox nxt) ?_
      refine gSw_c (fun _ => lw_16 hL i0 h7 l9 hox nxt) ?_
      refine gSw_c (fun _ => lw_17 hL i0 h7 l9 hox nxt) ?_
      refine gSw_c (fun _ => lw_18 hL i0 h7 l9 hox nxt) ?_
      refine gSw_c (fun _ => lw_19 hL i0 h7 l9 hox nxt) ?_
      refine gSw_c (fun _ => lw_20 hL i0 h7 l9 hox nxt) ?_
      refine gSw_c (fun _ => lw_21 hL i0 h7 l9 hox nxt) ?_
      refine gSw_c (fun _ => lw_22 hL i0 h7 l9 hox nxt) ?_
      refine gSw_c (fun _ => lw_23 hL i0 h7 l9 hox nxt) ?_
      refine gSw_c (fun _ => lw_24 hL i0 h7 l9 hox nxt) ?_
      refine gSw_c (fun _ => lw_25 hL i0 h7 l9 hox nxt) ?_
      refine gSw_c (fun _ => lw_26 hL i0 h7 l9 hox nxt) ?_
      refine gSw_c (fun _ => lw_27 hL i0 h7 l9 hox nxt) ?_
      refine gSw_c (fun _ => lw_28 hL i0 h7 l9 hox nxt) ?_
      refine gSw_c (fun _ => lw_29 hL i0 h7 l9 hox nxt) ?_
      refine gSw_c (fun _ => lw_30 hL i0 h7 l9 hox nxt) ?_
      refine gSw_c (fun _ => lw_31 hL i0 h7 l9 hox nxt) ?_
      refine gSw_c (fun _ => lw_32 hL i0 h7 l9 hox nxt) ?_
      refine gSw_c (fun _ => lw_33 hL i0 h7 l9 hox nxt) ?_
      refine gSw_c (fun _ => lw_34 hL i0 h7 l9 hox nxt) ?_
      refine gSw_c (fun _ => lw_35 hL i0 h7 l9 hox nxt) ?_
      exact dflt
    · rw [s_L_law_18]
      simp (disch := first | assumption | omega | (simp (disch := omega) only [gU_row, gU_same, gU_i, gCp_row] <;> omega)) only [↓reduceIte, Option.toList_some, Option.toList_none, List.cons_append, List.nil_append, List.singleton_append, List.append_nil, true_and, and_true, true_or, or_true, andT, iteT, iteF, itT, itF, s_L_law_19, s_L_law_20, s_L_law_21, s_L_law_23, s_L_law_24, s_L_law_27, s_L_law_28, s_L_law_29, s_L_law_30, s_L_law_32, s_L_law_33, s_L_law_1478, s_L_law_1479, zS_m2, isub_ok]
      exact hk _ _ _
end LAW
