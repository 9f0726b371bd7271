/-! THE LAW, 2: its cases -/
theorem en15 : nI 15 = 15 := by decide +kernel
theorem en16 : nI 16 = 16 := by decide +kernel
theorem en17 : nI 17 = 17 := by decide +kernel
theorem en18 : nI 18 = 18 := by decide +kernel
theorem en19 : nI 19 = 19 := by decide +kernel
theorem en20 : nI 20 = 20 := by decide +kernel
theorem en21 : nI 21 = 21 := by decide +kernel
theorem en22 : nI 22 = 22 := by decide +kernel
theorem en23 : nI 23 = 23 := by decide +kernel
theorem en24 : nI 24 = 24 := by decide +kernel
theorem en25 : nI 25 = 25 := by decide +kernel
theorem nI_2 (a : Nat) : nI a + 2 = nI (a + 2) := nI_add a 2
theorem nI_3 (a : Nat) : nI a + 3 = nI (a + 3) := nI_add a 3
theorem nI_4 (a : Nat) : nI a + 4 = nI (a + 4) := nI_add a 4
section RL
variable {xs : List Int32} {V : rb_V} {P : Option Value → rb_M → Prop} {i : Nat} {a4 a5 a6 a7 : Option Value}
theorem lc_0 (h : rs_RR V) (hi : i + 4 ≤ xs.length) (hL : xs.length ≤ 2048) (K : ∀ V2, rs_RR V2 → rb_G (some xs) 163 900 [some (.ref rb_scr), some (.ref 0), some (.ref 281), some (.int (nI i)), a4, a5, a6, a7] [] (rb_W V2) P) : rb_G (some xs) 163 152 [some (.ref rb_scr), some (.ref 0), some (.ref 281), some (.int (nI i)), a4, a5, a6, a7] [] (rb_W V) P := by
  obtain ⟨m, t, rd, ph, f, n, h⟩ := h
  obtain ⟨a, V1, V2, hq, hp, hR⟩ := pr_begin (x := xs.getD (i + 1) 0) (y := xs.getD (i + 2) 0) h
  have h1 : rb_inb (nI (i + 1)) xs.length = true := rb_in_nI (by omega) (by omega)
  have c1 : (nI (i + 1)).toNatClampNeg = i + 1 := nI_clamp (by omega)
  have h2 : rb_inb (nI (i + 2)) xs.length = true := rb_in_nI (by omega) (by omega)
  have c2 : (nI (i + 2)).toNatClampNeg = i + 2 := nI_clamp (by omega)
  simp only [r163_152, r163_152n, r163_153, r163_154, r163_155, r163_156, r163_157, r163_158, r163_159, r163_160, r163_161, r163_162, r163_163, r163_166, r163_166n, r163_167, r163_168, r163_169, r163_170, r163_171, r163_172, r163_173, r163_174, r163_175, r163_176, r163_177, r163_180, nI_1, nI_2, nI_3, h1, c1, h2, c2, Nat.reduceAdd, Nat.reduceLeDiff, Nat.reduceLT, Nat.zero_add, List.length_cons, List.length_nil, Option.toList_some, Option.toList_none, List.cons_append, List.nil_append, if_true, eq_self, hq, hp]
  exact K V2 hR
theorem lc_1 (h : rs_RR V) (hi : i + 4 ≤ xs.length) (hL : xs.length ≤ 2048) (K : ∀ V2, rs_RR V2 → rb_G (some xs) 163 900 [some (.ref rb_scr), some (.ref 0), some (.ref 281), some (.int (nI i)), a4, a5, a6, a7] [] (rb_W V2) P) : rb_G (some xs) 163 185 [some (.ref rb_scr), some (.ref 0), some (.ref 281), some (.int (nI i)), a4, a5, a6, a7] [] (rb_W V) P := by
  obtain ⟨m, t, rd, ph, f, n, h⟩ := h
  obtain ⟨a, V1, V2, hq, hp, hR⟩ := pr_set (x := xs.getD (i + 1) 0) (y := xs.getD (i + 2) 0) h
  have h1 : rb_inb (nI (i + 1)) xs.length = true := rb_in_nI (by omega) (by omega)
  have c1 : (nI (i + 1)).toNatClampNeg = i + 1 := nI_clamp (by omega)
  have h2 : rb_inb (nI (i + 2)) xs.length = true := rb_in_nI (by omega) (by omega)
  have c2 : (nI (i + 2)).toNatClampNeg = i + 2 := nI_clamp (by omega)
  simp only [r163_185, r163_185n, r163_186, r163_187, r163_188, r163_189, r163_190, r163_191, r163_192, r163_193, r163_194, r163_195, r163_196, r163_199, r163_199n, r163_200, r163_201, r163_202, r163_203, r163_204, r163_205, r163_206, r163_207, r163_208, r163_209, r163_210, r163_213, nI_1, nI_2, nI_3, h1, c1, h2, c2, Nat.reduceAdd, Nat.reduceLeDiff, Nat.reduceLT, Nat.zero_add, List.length_cons, List.length_nil, Option.toList_some, Option.toList_none, List.cons_append, List.nil_append, if_true, eq_self, hq, hp]
  exact K V2 hR
theorem lc_2 (h : rs_RR V) (hi : i + 4 ≤ xs.length) (hL : xs.length ≤ 2048) (K : ∀ V2, rs_RR V2 → rb_G (some xs) 163 900 [some (.ref rb_scr), some (.ref 0), some (.ref 281), some (.int (nI i)), a4, a5, a6, a7] [] (rb_W V2) P) : rb_G (some xs) 163 218 [some (.ref rb_scr), some (.ref 0), some (.ref 281), some (.int (nI i)), a4, a5, a6, a7] [] (rb_W V) P := by
  obtain ⟨m, t, rd, ph, f, n, h⟩ := h
  obtain ⟨a, V1, V2, hq, hp, hR⟩ := pr_setSeed (x := xs.getD (i + 1) 0) h
  have h1 : rb_inb (nI (i + 1)) xs.length = true := rb_in_nI (by omega) (by omega)
  have c1 : (nI (i + 1)).toNatClampNeg = i + 1 := nI_clamp (by omega)
  simp only [r163_218, r163_218n, r163_219, r163_220, r163_221, r163_222, r163_223, r163_224, r163_227, r163_227n, r163_228, r163_229, r163_230, r163_231, r163_232, r163_233, r163_236, nI_1, nI_2, nI_3, h1, c1, Nat.reduceAdd, Nat.reduceLeDiff, Nat.reduceLT, Nat.zero_add, List.length_cons, List.length_nil, Option.toList_some, Option.toList_none, List.cons_append, List.nil_append, if_true, eq_self, hq, hp]
  exact K V2 hR
theorem lc_3 (h : rs_RR V) (hi : i + 4 ≤ xs.length) (hL : xs.length ≤ 2048) (K : ∀ V2, rs_RR V2 → rb_G (some xs) 163 900 [some (.ref rb_scr), some (.ref 0), some (.ref 281), some (.int (nI i)), a4, a5, a6, a7] [] (rb_W V2) P) : rb_G (some xs) 163 241 [some (.ref rb_scr), some (.ref 0), some (.ref 281), some (.int (nI i)), a4, a5, a6, a7] [] (rb_W V) P := by
  obtain ⟨m, t, rd, ph, f, n, h⟩ := h
  obtain ⟨a, V1, V2, hq, hp, hR⟩ := pr_turn (x := xs.getD (i + 1) 0) (y := xs.getD (i + 2) 0) h
  have h1 : rb_inb (nI (i + 1)) xs.length = true := rb_in_nI (by omega) (by omega)
  have c1 : (nI (i + 1)).toNatClampNeg = i + 1 := nI_clamp (by omega)
  have h2 : rb_inb (nI (i + 2)) xs.length = true := rb_in_nI (by omega) (by omega)
  have c2 : (nI (i + 2)).toNatClampNeg = i + 2 := nI_clamp (by omega)
  simp only [r163_241, r163_241n, r163_242, r163_243, r163_244, r163_245, r163_246, r163_247, r163_248, r163_249, r163_250, r163_251, r163_252, r163_255, r163_255n, r163_256, r163_257, r163_258, r163_259, r163_260, r163_261, r163_262, r163_263, r163_264, r163_265, r163_266, r163_269, nI_1, nI_2, nI_3, h1, c1, h2, c2, Nat.reduceAdd, Nat.reduceLeDiff, Nat.reduceLT, Nat.zero_add, List.length_cons, List.length_nil, Option.toList_some, Option.toList_none, List.cons_append, List.nil_append, if_true, eq_self, hq, hp]
  exact K V2 hR
theorem lc_4 (h : rs_RR V) (hi : i + 4 ≤ xs.length) (hL : xs.length ≤ 2048) (K : ∀ V2, rs_RR V2 → rb_G (some xs) 163 900 [some (.ref rb_scr), some (.ref 0), some (.ref 281), some (.int (nI i)), a4, a5, a6, a7] [] (rb_W V2) P) : rb_G (some xs) 163 274 [some (.ref rb_scr), some (.ref 0), some (.ref 281), some (.int (nI i)), a4, a5, a6, a7] [] (rb_W V) P := by
  obtain ⟨m, t, rd, ph, f, n, h⟩ := h
  obtain ⟨a, V1, V2, hq, hp, hR⟩ := pr_pay (x := xs.getD (i + 1) 0) (y := xs.getD (i + 2) 0) h
  have h1 : rb_inb (nI (i + 1)) xs.length = true := rb_in_nI (by omega) (by omega)
  have c1 : (nI (i + 1)).toNatClampNeg = i + 1 := nI_clamp (by omega)
  have h2 : rb_inb (nI (i + 2)) xs.length = true := rb_in_nI (by omega) (by omega)
  have c2 : (nI (i + 2)).toNatClampNeg = i + 2 := nI_clamp (by omega)
  simp only [r163_274, r163_274n, r163_275, r163_276, r163_277, r163_278, r163_279, r163_280, r163_281, r163_282, r163_283, r163_284, r163_285, r163_288, r163_288n, r163_289, r163_290, r163_291, r163_292, r163_293, r163_294, r163_295, r163_296, r163_297, r163_298, r163_299, r163_302, nI_1, nI_2, nI_3, h1, c1, h2, c2, Nat.reduceAdd, Nat.reduceLeDiff, Nat.reduceLT, Nat.zero_add, List.length_cons, List.length_nil, Option.toList_some, Option.toList_none, List.cons_append, List.nil_append, if_true, eq_self, hq, hp]
  exact K V2 hR
theorem lc_5 (h : rs_RR V) (hi : i + 4 ≤ xs.length) (hL : xs.length ≤ 2048) (K : ∀ V2, rs_RR V2 → rb_G (some xs) 163 900 [some (.ref rb_scr), some (.ref 0), some (.ref 281), some (.int (nI i)), a4, a5, a6, a7] [] (rb_W V2) P) : rb_G (some xs) 163 307 [some (.ref rb_scr), some (.ref 0), some (.ref 281), some (.int (nI i)), a4, a5, a6, a7] [] (rb_W V) P := by
  obtain ⟨m, t, rd, ph, f, n, h⟩ := h
  obtain ⟨a, V1, V2, hq, hp, hR⟩ := pr_commit (x := xs.getD (i + 1) 0) (y := xs.getD (i + 2) 0) (z := xs.getD (i + 3) 0) h
  have h1 : rb_inb (nI (i + 1)) xs.length = true := rb_in_nI (by omega) (by omega)
  have c1 : (nI (i + 1)).toNatClampNeg = i + 1 := nI_clamp (by omega)
  have h2 : rb_inb (nI (i + 2)) xs.length = true := rb_in_nI (by omega) (by omega)
  have c2 : (nI (i + 2)).toNatClampNeg = i + 2 := nI_clamp (by omega)
  have h3 : rb_inb (nI (i + 3)) xs.length = true := rb_in_nI (by omega) (by omega)
  have c3 : (nI (i + 3)).toNatClampNeg = i + 3 := nI_clamp (by omega)
  simp only [r163_307, r163_307n, r163_308, r163_309, r163_310, r163_311, r163_312, r163_313, r163_314, r163_315, r163_316, r163_317, r163_318, r163_319, r163_320, r163_321, r163_322, r163_323, r163_326, r163_326n, r163_327, r163_328, r163_329, r163_330, r163_331, r163_332, r163_333, r163_334, r163_335, r163_336, r163_337, r163_338, r163_339, r163_340, r163_341, r163_342, r163_345, nI_1, nI_2, nI_3, h1, c1, h2, c2, h3, c3, Nat.reduceAdd, Nat.reduceLeDiff, Nat.reduceLT, Nat.zero_add, List.length_cons, List.length_nil, Option.toList_some, Option.toList_none, List.cons_append, List.nil_append, if_true, eq_self, hq, hp]
  exact K V2 hR
theorem lc_6 (h : rs_RR V) (hi : i + 4 ≤ xs.length) (hL : xs.length ≤ 2048) (K : ∀ V2, rs_RR V2 → rb_G (some xs) 163 900 [some (.ref rb_scr), some (.ref 0), some (.ref 281), some (.int (nI i)), a4, a5, a6, a7] [] (rb_W V2) P) : rb_G (some xs) 163 350 [some (.ref rb_scr), some (.ref 0), some (.ref 281), some (.int (nI i)), a4, a5, a6, a7] [] (rb_W V) P := by
  obtain ⟨m, t, rd, ph, f, n, h⟩ := h
  obtain ⟨a, V1, V2, hq, hp, hR⟩ := pr_reveal (x := xs.getD (i + 1) 0) (y := xs.getD (i + 2) 0) (z := xs.getD (i + 3) 0) h
  have h1 : rb_inb (nI (i + 1)) xs.length = true := rb_in_nI (by omega) (by omega)
  have c1 : (nI (i + 1)).toNatClampNeg = i + 1 := nI_clamp (by omega)
  have h2 : rb_inb (nI (i + 2)) xs.length = true := rb_in_nI (by omega) (by omega)
  have c2 : (nI (i + 2)).toNatClampNeg = i + 2 := nI_clamp (by omega)
  have h3 : rb_inb (nI (i + 3)) xs.length = true := rb_in_nI (by omega) (by omega)
  have c3 : (nI (i + 3)).toNatClampNeg = i + 3 := nI_clamp (by omega)
  simp only [r163_350, r163_350n, r163_351, r163_352, r163_353, r163_354, r163_355, r163_356, r163_357, r163_358, r163_359, r163_360, r163_361, r163_362, r163_363, r163_364, r163_365, r163_366, r163_369, r163_369n, r163_370, r163_371, r163_372, r163_373, r163_374, r163_375, r163_376, r163_377, r163_378, r163_379, r163_380, r163_381, r163_382, r163_383, r163_384, r163_385, r163_388, nI_1, nI_2, nI_3, h1, c1, h2, c2, h3, c3, Nat.reduceAdd, Nat.reduceLeDiff, Nat.reduceLT, Nat.zero_add, List.length_cons, List.length_nil, Option.toList_some, Option.toList_none, List.cons_append, List.nil_append, if_true, eq_self, hq, hp]
  exact K V2 hR
theorem lc_7 (h : rs_RR V) (hi : i + 4 ≤ xs.length) (hL : xs.length ≤ 2048) (K : ∀ V2, rs_RR V2 → rb_G (some xs) 163 900 [some (.ref rb_scr), some (.ref 0), some (.ref 281), some (.int (nI i)), a4, a5, a6, a7] [] (rb_W V2) P) : rb_G (some xs) 163 393 [some (.ref rb_scr), some (.ref 0), some (.ref 281), some (.int (nI i)), a4, a5, a6, a7] [] (rb_W V) P := by
  obtain ⟨m, t, rd, ph, f, n, h⟩ := h
  obtain ⟨a, V1, V2, hq, hp, hR⟩ := pr_publish (x := xs.getD (i + 1) 0) (y := xs.getD (i + 2) 0) (z := xs.getD (i + 3) 0) h
  have h1 : rb_inb (nI (i + 1)) xs.length = true := rb_in_nI (by omega) (by omega)
  have c1 : (nI (i + 1)).toNatClampNeg = i + 1 := nI_clamp (by omega)
  have h2 : rb_inb (nI (i + 2)) xs.length = true := rb_in_nI (by omega) (by omega)
  have c2 : (nI (i + 2)).toNatClampNeg = i + 2 := nI_clamp (by omega)
  have h3 : rb_inb (nI (i + 3)) xs.length = true := rb_in_nI (by omega) (by omega)
  have c3 : (nI (i + 3)).toNatClampNeg = i + 3 := nI_clamp (by omega)
  simp only [r163_393, r163_393n, r163_394, r163_395, r163_396, r163_397, r163_398, r163_399, r163_400, r163_401, r163_402, r163_403, r163_404, r163_405, r163_406, r163_407, r163_408, r163_409, r163_412, r163_412n, r163_413, r163_414, r163_415, r163_416, r163_417, r163_418, r163_419, r163_420, r163_421, r163_422, r163_423, r163_424, r163_425, r163_426, r163_427, r163_428, r163_431, nI_1, nI_2, nI_3, h1, c1, h2, c2, h3, c3, Nat.reduceAdd, Nat.reduceLeDiff, Nat.reduceLT, Nat.zero_add, List.length_cons, List.length_nil, Option.toList_some, Option.toList_none, List.cons_append, List.nil_append, if_true, eq_self, hq, hp]
  exact K V2 hR
theorem lc_8 (h : rs_RR V) (hi : i + 4 ≤ xs.length) (hL : xs.length ≤ 2048) (K : ∀ V2, rs_RR V2 → rb_G (some xs) 163 900 [some (.ref rb_scr), some (.ref 0), some (.ref 281), some (.int (nI i)), a4, a5, a6, a7] [] (rb_W V2) P) : rb_G (some xs) 163 436 [some (.ref rb_scr), some (.ref 0), some (.ref 281), some (.int (nI i)), a4, a5, a6, a7] [] (rb_W V) P := by
  obtain ⟨m, t, rd, ph, f, n, h⟩ := h
  obtain ⟨a, V1, V2, hq, hp, hR⟩ := pr_give (x := xs.getD (i + 1) 0) (y := xs.getD (i + 2) 0) h
  have h1 : rb_inb (nI (i + 1)) xs.length = true := rb_in_nI (by omega) (by omega)
  have c1 : (nI (i + 1)).toNatClampNeg = i + 1 := nI_clamp (by omega)
  have h2 : rb_inb (nI (i + 2)) xs.length = true := rb_in_nI (by omega) (by omega)
  have c2 : (nI (i + 2)).toNatClampNeg = i + 2 := nI_clamp (by omega)
  simp only [r163_436, r163_436n, r163_437, r163_438, r163_439, r163_440, r163_441, r163_442, r163_443, r163_444, r163_445, r163_446, r163_447, r163_450, r163_450n, r163_451, r163_452, r163_453, r163_454, r163_455, r163_456, r163_457, r163_458, r163_459, r163_460, r163_461, r163_464, nI_1, nI_2, nI_3, h1, c1, h2, c2, Nat.reduceAdd, Nat.reduceLeDiff, Nat.reduceLT, Nat.zero_add, List.length_cons, List.length_nil, Option.toList_some, Option.toList_none, List.cons_append, List.nil_append, if_true, eq_self, hq, hp]
  exact K V2 hR
theorem lc_9 (h : rs_RR V) (hi : i + 4 ≤ xs.length) (hL : xs.length ≤ 2048) (K : ∀ V2, rs_RR V2 → rb_G (some xs) 163 900 [some (.ref rb_scr), some (.ref 0), some (.ref 281), some (.int (nI i)), a4, a5, a6, a7] [] (rb_W V2) P) : rb_G (some xs) 163 469 [some (.ref rb_scr), some (.ref 0), some (.ref 281), some (.int (nI i)), a4, a5, a6, a7] [] (rb_W V) P := by
  obtain ⟨m, t, rd, ph, f, n, h⟩ := h
  obtain ⟨a, V1, V2, hq, hp, hR⟩ := pr_tick (x := xs.getD (i + 1) 0) h
  have h1 : rb_inb (nI (i + 1)) xs.length = true := rb_in_nI (by omega) (by omega)
  have c1 : (nI (i + 1)).toNatClampNeg = i + 1 := nI_clamp (by omega)
  simp only [r163_469, r163_469n, r163_470, r163_471, r163_472, r163_473, r163_474, r163_475, r163_478, r163_478n, r163_479, r163_480, r163_481, r163_482, r163_483, r163_484, r163_487, nI_1, nI_2, nI_3, h1, c1, Nat.reduceAdd, Nat.reduceLeDiff, Nat.reduceLT, Nat.zero_add, List.length_cons, List.length_nil, Option.toList_some, Option.toList_none, List.cons_append, List.nil_append, if_true, eq_self, hq, hp]
  exact K V2 hR
theorem lc_10 (h : rs_RR V) (hi : i + 4 ≤ xs.length) (hL : xs.length ≤ 2048) (K : ∀ V2, rs_RR V2 → rb_G (some xs) 163 900 [some (.ref rb_scr), some (.ref 0), some (.ref 281), some (.int (nI i)), a4, a5, a6, a7] [] (rb_W V2) P) : rb_G (some xs) 163 492 [some (.ref rb_scr), some (.ref 0), some (.ref 281), some (.int (nI i)), a4, a5, a6, a7] [] (rb_W V) P := by
  obtain ⟨m, t, rd, ph, f, n, h⟩ := h
  obtain ⟨a, V1, V2, hq, hp, hR⟩ := pr_next h
  simp only [r163_492, r163_492n, r163_493, r163_496, r163_496n, r163_497, r163_500, nI_1, nI_2, nI_3, Nat.reduceAdd, Nat.reduceLeDiff, Nat.reduceLT, Nat.zero_add, List.length_cons, List.length_nil, Option.toList_some, Option.toList_none, List.cons_append, List.nil_append, if_true, eq_self, hq, hp]
  exact K V2 hR
theorem lc_11 (h : rs_RR V) (hi : i + 4 ≤ xs.length) (hL : xs.length ≤ 2048) (K : ∀ V2, rs_RR V2 → rb_G (some xs) 163 900 [some (.ref rb_scr), some (.ref 0), some (.ref 281), some (.int (nI i)), a4, a5, a6, a7] [] (rb_W V2) P) : rb_G (some xs) 163 505 [some (.ref rb_scr), some (.ref 0), some (.ref 281), some (.int (nI i)), a4, a5, a6, a7] [] (rb_W V) P := by
  obtain ⟨m, t, rd, ph, f, n, h⟩ := h
  obtain ⟨a, V1, V2, hq, hp, hR⟩ := pr_undo h
  simp only [r163_505, r163_505n, r163_506, r163_509, r163_509n, r163_510, r163_513, nI_1, nI_2, nI_3, Nat.reduceAdd, Nat.reduceLeDiff, Nat.reduceLT, Nat.zero_add, List.length_cons, List.length_nil, Option.toList_some, Option.toList_none, List.cons_append, List.nil_append, if_true, eq_self, hq, hp]
  exact K V2 hR
theorem lc_12 (h : rs_RR V) (hi : i + 4 ≤ xs.length) (hL : xs.length ≤ 2048) (K : ∀ V2, rs_RR V2 → rb_G (some xs) 163 900 [some (.ref rb_scr), some (.ref 0), some (.ref 281), some (.int (nI i)), a4, a5, a6, a7] [] (rb_W V2) P) : rb_G (some xs) 163 518 [some (.ref rb_scr), some (.ref 0), some (.ref 281), some (.int (nI i)), a4, a5, a6, a7] [] (rb_W V) P := by
  obtain ⟨m, t, rd, ph, f, n, h⟩ := h
  obtain ⟨a, V1, V2, hq, hp, hR⟩ := pr_told (x := xs.getD (i + 1) 0) h
  have h1 : rb_inb (nI (i + 1)) xs.length = true := rb_in_nI (by omega) (by omega)
  have c1 : (nI (i + 1)).toNatClampNeg = i + 1 := nI_clamp (by omega)
  simp only [r163_518, r163_518n, r163_519, r163_520, r163_521, r163_522, r163_523, r163_524, r163_527, r163_527n, r163_528, r163_529, r163_530, r163_531, r163_532, r163_533, r163_536, nI_1, nI_2, nI_3, h1, c1, Nat.reduceAdd, Nat.reduceLeDiff, Nat.reduceLT, Nat.zero_add, List.length_cons, List.length_nil, Option.toList_some, Option.toList_none, List.cons_append, List.nil_append, if_true, eq_self, hq, hp]
  exact K V2 hR
theorem lc_13 (h : rs_RR V) (hi : i + 4 ≤ xs.length) (hL : xs.length ≤ 2048) (K : ∀ V2, rs_RR V2 → rb_G (some xs) 163 900 [some (.ref rb_scr), some (.ref 0), some (.ref 281), some (.int (nI i)), a4, a5, a6, a7] [] (rb_W V2) P) : rb_G (some xs) 163 541 [some (.ref rb_scr), some (.ref 0), some (.ref 281), some (.int (nI i)), a4, a5, a6, a7] [] (rb_W V) P := by
  obtain ⟨m, t, rd, ph, f, n, h⟩ := h
  obtain ⟨a, V1, V2, hq, hp, hR⟩ := pr_setting (x := xs.getD (i + 1) 0) h
  have h1 : rb_inb (nI (i + 1)) xs.length = true := rb_in_nI (by omega) (by omega)
  have c1 : (nI (i + 1)).toNatClampNeg = i + 1 := nI_clamp (by omega)
  simp only [r163_541, r163_541n, r163_542, r163_543, r163_544, r163_545, r163_546, r163_547, r163_550, r163_550n, r163_551, r163_552, r163_553, r163_554, r163_555, r163_556, r163_559, nI_1, nI_2, nI_3, h1, c1, Nat.reduceAdd, Nat.reduceLeDiff, Nat.reduceLT, Nat.zero_add, List.length_cons, List.length_nil, Option.toList_some, Option.toList_none, List.cons_append, List.nil_append, if_true, eq_self, hq, hp]
  exact K V2 hR
theorem lc_14 (h : rs_RR V) (hi : i + 4 ≤ xs.length) (hL : xs.length ≤ 2048) (K : ∀ V2, rs_RR V2 → rb_G (some xs) 163 900 [some (.ref rb_scr), some (.ref 0), some (.ref 281), some (.int (nI i)), a4, a5, a6, a7] [] (rb_W V2) P) : rb_G (some xs) 163 564 [some (.ref rb_scr), some (.ref 0), some (.ref 281), some (.int (nI i)), a4, a5, a6, a7] [] (rb_W V) P := by
  obtain ⟨m, t, rd, ph, f, n, h⟩ := h
  obtain ⟨a, V1, V2, hq, hp, hR⟩ := pr_member (x := xs.getD (i + 1) 0) (y := xs.getD (i + 2) 0) h
  have h1 : rb_inb (nI (i + 1)) xs.length = true := rb_in_nI (by omega) (by omega)
  have c1 : (nI (i + 1)).toNatClampNeg = i + 1 := nI_clamp (by omega)
  have h2 : rb_inb (nI (i + 2)) xs.length = true := rb_in_nI (by omega) (by omega)
  have c2 : (nI (i + 2)).toNatClampNeg = i + 2 := nI_clamp (by omega)
  simp only [r163_564, r163_564n, r163_565, r163_566, r163_567, r163_568, r163_569, r163_570, r163_571, r163_572, r163_573, r163_574, r163_575, r163_578, r163_578n, r163_579, r163_580, r163_581, r163_582, r163_583, r163_584, r163_585, r163_586, r163_587, r163_588, r163_589, r163_592, nI_1, nI_2, nI_3, h1, c1, h2, c2, Nat.reduceAdd, Nat.reduceLeDiff, Nat.reduceLT, Nat.zero_add, List.length_cons, List.length_nil, Option.toList_some, Option.toList_none, List.cons_append, List.nil_append, if_true, eq_self, hq, hp]
  exact K V2 hR
theorem lc_15 (h : rs_RR V) (hi : i + 4 ≤ xs.length) (hL : xs.length ≤ 2048) (K : ∀ V2, rs_RR V2 → rb_G (some xs) 163 900 [some (.ref rb_scr), some (.ref 0), some (.ref 281), some (.int (nI i)), a4, a5, a6, a7] [] (rb_W V2) P) : rb_G (some xs) 163 597 [some (.ref rb_scr), some (.ref 0), some (.ref 281), some (.int (nI i)), a4, a5, a6, a7] [] (rb_W V) P := by
  obtain ⟨m, t, rd, ph, f, n, h⟩ := h
  obtain ⟨a, V1, V2, hq, hp, hR⟩ := pr_mark (x := xs.getD (i + 1) 0) (y := xs.getD (i + 2) 0) h
  have h1 : rb_inb (nI (i + 1)) xs.length = true := rb_in_nI (by omega) (by omega)
  have c1 : (nI (i + 1)).toNatClampNeg = i + 1 := nI_clamp (by omega)
  have h2 : rb_inb (nI (i + 2)) xs.length = true := rb_in_nI (by omega) (by omega)
  have c2 : (nI (i + 2)).toNatClampNeg = i + 2 := nI_clamp (by omega)
  simp only [r163_597, r163_597n, r163_598, r163_599, r163_600, r163_601, r163_602, r163_603, r163_604, r163_605, r163_606, r163_607, r163_608, r163_611, r163_611n, r163_612, r163_613, r163_614, r163_615, r163_616, r163_617, r163_618, r163_619, r163_620, r163_621, r163_622, r163_625, nI_1, nI_2, nI_3, h1, c1, h2, c2, Nat.reduceAdd, Nat.reduceLeDiff, Nat.reduceLT, Nat.zero_add, List.length_cons, List.length_nil, Option.toList_some, Option.toList_none, List.cons_append, List.nil_append, if_true, eq_self, hq, hp]
  exact K V2 hR
theorem lc_16 (h : rs_RR V) (hi : i + 4 ≤ xs.length) (hL : xs.length ≤ 2048) (K : ∀ V2, rs_RR V2 → rb_G (some xs) 163 900 [some (.ref rb_scr), some (.ref 0), some (.ref 281), some (.int (nI i)), a4, a5, a6, a7] [] (rb_W V2) P) : rb_G (some xs) 163 630 [some (.ref rb_scr), some (.ref 0), some (.ref 281), some (.int (nI i)), a4, a5, a6, a7] [] (rb_W V) P := by
  obtain ⟨m, t, rd, ph, f, n, h⟩ := h
  obtain ⟨a, V1, V2, hq, hp, hR⟩ := pr_share (x := xs.getD (i + 1) 0) (y := xs.getD (i + 2) 0) h
  have h1 : rb_inb (nI (i + 1)) xs.length = true := rb_in_nI (by omega) (by omega)
  have c1 : (nI (i + 1)).toNatClampNeg = i + 1 := nI_clamp (by omega)
  have h2 : rb_inb (nI (i + 2)) xs.length = true := rb_in_nI (by omega) (by omega)
  have c2 : (nI (i + 2)).toNatClampNeg = i + 2 := nI_clamp (by omega)
  simp only [r163_630, r163_630n, r163_631, r163_632, r163_633, r163_634, r163_635, r163_636, r163_637, r163_638, r163_639, r163_640, r163_641, r163_644, r163_644n, r163_645, r163_646, r163_647, r163_648, r163_649, r163_650, r163_651, r163_652, r163_653, r163_654, r163_655, r163_658, nI_1, nI_2, nI_3, h1, c1, h2, c2, Nat.reduceAdd, Nat.reduceLeDiff, Nat.reduceLT, Nat.zero_add, List.length_cons, List.length_nil, Option.toList_some, Option.toList_none, List.cons_append, List.nil_append, if_true, eq_self, hq, hp]
  exact K V2 hR
theorem lc_17 (h : rs_RR V) (hi : i + 4 ≤ xs.length) (hL : xs.length ≤ 2048) (K : ∀ V2, rs_RR V2 → rb_G (some xs) 163 900 [some (.ref rb_scr), some (.ref 0), some (.ref 281), some (.int (nI i)), a4, a5, a6, a7] [] (rb_W V2) P) : rb_G (some xs) 163 663 [some (.ref rb_scr), some (.ref 0), some (.ref 281), some (.int (nI i)), a4, a5, a6, a7] [] (rb_W V) P := by
  obtain ⟨m, t, rd, ph, f, n, h⟩ := h
  obtain ⟨a, V1, V2, hq, hp, hR⟩ := pr_commitment (x := xs.getD (i + 1) 0) (y := xs.getD (i + 2) 0) (z := xs.getD (i + 3) 0) h
  have h1 : rb_inb (nI (i + 1)) xs.length = true := rb_in_nI (by omega) (by omega)
  have c1 : (nI (i + 1)).toNatClampNeg = i + 1 := nI_clamp (by omega)
  have h2 : rb_inb (nI (i + 2)) xs.length = true := rb_in_nI (by omega) (by omega)
  have c2 : (nI (i + 2)).toNatClampNeg = i + 2 := nI_clamp (by omega)
  have h3 : rb_inb (nI (i + 3)) xs.length = true := rb_in_nI (by omega) (by omega)
  have c3 : (nI (i + 3)).toNatClampNeg = i + 3 := nI_clamp (by omega)
  simp only [r163_663, r163_663n, r163_664, r163_665, r163_666, r163_667, r163_668, r163_669, r163_670, r163_671, r163_672, r163_673, r163_674, r163_675, r163_676, r163_677, r163_678, r163_679, r163_682, r163_682n, r163_683, r163_684, r163_685, r163_686, r163_687, r163_688, r163_689, r163_690, r163_691, r163_692, r163_693, r163_694, r163_695, r163_696, r163_697, r163_698, r163_701, nI_1, nI_2, nI_3, h1, c1, h2, c2, h3, c3, Nat.reduceAdd, Nat.reduceLeDiff, Nat.reduceLT, Nat.zero_add, List.length_cons, List.length_nil, Option.toList_some, Option.toList_none, List.cons_append, List.nil_append, if_true, eq_self, hq, hp]
  exact K V2 hR
theorem lc_18 (h : rs_RR V) (hi : i + 4 ≤ xs.length) (hL : xs.length ≤ 2048) (K : ∀ V2, rs_RR V2 → rb_G (some xs) 163 900 [some (.ref rb_scr), some (.ref 0), some (.ref 281), some (.int (nI i)), a4, a5, a6, a7] [] (rb_W V2) P) : rb_G (some xs) 163 706 [some (.ref rb_scr), some (.ref 0), some (.ref 281), some (.int (nI i)), a4, a5, a6, a7] [] (rb_W V) P := by
  obtain ⟨m, t, rd, ph, f, n, h⟩ := h
  obtain ⟨a, V1, V2, hq, hp, hR⟩ := pr_openings (x := xs.getD (i + 1) 0) (y := xs.getD (i + 2) 0) h
  have h1 : rb_inb (nI (i + 1)) xs.length = true := rb_in_nI (by omega) (by omega)
  have c1 : (nI (i + 1)).toNatClampNeg = i + 1 := nI_clamp (by omega)
  have h2 : rb_inb (nI (i + 2)) xs.length = true := rb_in_nI (by omega) (by omega)
  have c2 : (nI (i + 2)).toNatClampNeg = i + 2 := nI_clamp (by omega)
  simp only [r163_706, r163_706n, r163_707, r163_708, r163_709, r163_710, r163_711, r163_712, r163_713, r163_714, r163_715, r163_716, r163_717, r163_720, r163_720n, r163_721, r163_722, r163_723, r163_724, r163_725, r163_726, r163_727, r163_728, r163_729, r163_730, r163_731, r163_734, nI_1, nI_2, nI_3, h1, c1, h2, c2, Nat.reduceAdd, Nat.reduceLeDiff, Nat.reduceLT, Nat.zero_add, List.length_cons, List.length_nil, Option.toList_some, Option.toList_none, List.cons_append, List.nil_append, if_true, eq_self, hq, hp]
  exact K V2 hR
theorem lc_19 (h : rs_RR V) (hi : i + 4 ≤ xs.length) (hL : xs.length ≤ 2048) (K : ∀ V2, rs_RR V2 → rb_G (some xs) 163 900 [some (.ref rb_scr), some (.ref 0), some (.ref 281), some (.int (nI i)), a4, a5, a6, a7] [] (rb_W V2) P) : rb_G (some xs) 163 739 [some (.ref rb_scr), some (.ref 0), some (.ref 281), some (.int (nI i)), a4, a5, a6, a7] [] (rb_W V) P := by
  obtain ⟨m, t, rd, ph, f, n, h⟩ := h
  obtain ⟨a, V1, V2, hq, hp, hR⟩ := pr_past (x := xs.getD (i + 1) 0) h
  have h1 : rb_inb (nI (i + 1)) xs.length = true := rb_in_nI (by omega) (by omega)
  have c1 : (nI (i + 1)).toNatClampNeg = i + 1 := nI_clamp (by omega)
  simp only [r163_739, r163_739n, r163_740, r163_741, r163_742, r163_743, r163_744, r163_745, r163_748, r163_748n, r163_749, r163_750, r163_751, r163_752, r163_753, r163_754, r163_757, nI_1, nI_2, nI_3, h1, c1, Nat.reduceAdd, Nat.reduceLeDiff, Nat.reduceLT, Nat.zero_add, List.length_cons, List.length_nil, Option.toList_some, Option.toList_none, List.cons_append, List.nil_append, if_true, eq_self, hq, hp]
  exact K V2 hR
theorem lc_20 (h : rs_RR V) (hi : i + 4 ≤ xs.length) (hL : xs.length ≤ 2048) (K : ∀ V2, rs_RR V2 → rb_G (some xs) 163 900 [some (.ref rb_scr), some (.ref 0), some (.ref 281), some (.int (nI i)), a4, a5, a6, a7] [] (rb_W V2) P) : rb_G (some xs) 163 762 [some (.ref rb_scr), some (.ref 0), some (.ref 281), some (.int (nI i)), a4, a5, a6, a7] [] (rb_W V) P := by
  obtain ⟨m, t, rd, ph, f, n, h⟩ := h
  obtain ⟨a, V1, V2, hq, hp, hR⟩ := pr_honest h
  simp only [r163_762, r163_762n, r163_763, r163_766, r163_766n, r163_767, r163_770, nI_1, nI_2, nI_3, Nat.reduceAdd, Nat.reduceLeDiff, Nat.reduceLT, Nat.zero_add, List.length_cons, List.length_nil, Option.toList_some, Option.toList_none, List.cons_append, List.nil_append, if_true, eq_self, hq, hp]
  exact K V2 hR
theorem lc_21 (h : rs_RR V) (hi : i + 4 ≤ xs.length) (hL : xs.length ≤ 2048) (K : ∀ V2, rs_RR V2 → rb_G (some xs) 163 900 [some (.ref rb_scr), some (.ref 0), some (.ref 281), some (.int (nI i)), a4, a5, a6, a7] [] (rb_W V2) P) : rb_G (some xs) 163 775 [some (.ref rb_scr), some (.ref 0), some (.ref 281), some (.int (nI i)), a4, a5, a6, a7] [] (rb_W V) P := by
  obtain ⟨m, t, rd, ph, f, n, h⟩ := h
  obtain ⟨a, V1, V2, hq, hp, hR⟩ := pr_outcome h
  simp only [r163_775, r163_775n, r163_776, r163_779, r163_779n, r163_780, r163_783, nI_1, nI_2, nI_3, Nat.reduceAdd, Nat.reduceLeDiff, Nat.reduceLT, Nat.zero_add, List.length_cons, List.length_nil, Option.toList_some, Option.toList_none, List.cons_append, List.nil_append, if_true, eq_self, hq, hp]
  exact K V2 hR
theorem lc_22 (h : rs_RR V) (hi : i + 4 ≤ xs.length) (hL : xs.length ≤ 2048) (K : ∀ V2, rs_RR V2 → rb_G (some xs) 163 900 [some (.ref rb_scr), some (.ref 0), some (.ref 281), some (.int (nI i)), a4, a5, a6, a7] [] (rb_W V2) P) : rb_G (some xs) 163 788 [some (.ref rb_scr), some (.ref 0), some (.ref 281), some (.int (nI i)), a4, a5, a6, a7] [] (rb_W V) P := by
  obtain ⟨m, t, rd, ph, f, n, h⟩ := h
  obtain ⟨a, V1, V2, hq, hp, hR⟩ := pr_influence (x := xs.getD (i + 1) 0) h
  have h1 : rb_inb (nI (i + 1)) xs.length = true := rb_in_nI (by omega) (by omega)
  have c1 : (nI (i + 1)).toNatClampNeg = i + 1 := nI_clamp (by omega)
  simp only [r163_788, r163_788n, r163_789, r163_790, r163_791, r163_792, r163_793, r163_794, r163_797, r163_797n, r163_798, r163_799, r163_800, r163_801, r163_802, r163_803, r163_806, nI_1, nI_2, nI_3, h1, c1, Nat.reduceAdd, Nat.reduceLeDiff, Nat.reduceLT, Nat.zero_add, List.length_cons, List.length_nil, Option.toList_some, Option.toList_none, List.cons_append, List.nil_append, if_true, eq_self, hq, hp]
  exact K V2 hR
theorem lc_24 (h : rs_RR V) (hi : i + 4 ≤ xs.length) (hL : xs.length ≤ 2048) (K : ∀ V2, rs_RR V2 → rb_G (some xs) 163 900 [some (.ref rb_scr), some (.ref 0), some (.ref 281), some (.int (nI i)), a4, a5, a6, a7] [] (rb_W V2) P) : rb_G (some xs) 163 854 [some (.ref rb_scr), some (.ref 0), some (.ref 281), some (.int (nI i)), a4, a5, a6, a7] [] (rb_W V) P := by
  obtain ⟨m, t, rd, ph, f, n, h⟩ := h
  obtain ⟨a, V1, V2, hq, hp, hR⟩ := pr_keep (x := xs.getD (i + 1) 0) h
  have h1 : rb_inb (nI (i + 1)) xs.length = true := rb_in_nI (by omega) (by omega)
  have c1 : (nI (i + 1)).toNatClampNeg = i + 1 := nI_clamp (by omega)
  simp only [r163_854, r163_854n, r163_855, r163_856, r163_857, r163_858, r163_859, r163_860, r163_863, r163_863n, r163_864, r163_865, r163_866, r163_867, r163_868, r163_869, r163_872, nI_1, nI_2, nI_3, h1, c1, Nat.reduceAdd, Nat.reduceLeDiff, Nat.reduceLT, Nat.zero_add, List.length_cons, List.length_nil, Option.toList_some, Option.toList_none, List.cons_append, List.nil_append, if_true, eq_self, hq, hp]
  exact K V2 hR
theorem lc_25 (h : rs_RR V) (hi : i + 4 ≤ xs.length) (hL : xs.length ≤ 2048) (K : ∀ V2, rs_RR V2 → rb_G (some xs) 163 900 [some (.ref rb_scr), some (.ref 0), some (.ref 281), some (.int (nI i)), a4, a5, a6, a7] [] (rb_W V2) P) : rb_G (some xs) 163 877 [some (.ref rb_scr), some (.ref 0), some (.ref 281), some (.int (nI i)), a4, a5, a6, a7] [] (rb_W V) P := by
  obtain ⟨m, t, rd, ph, f, n, h⟩ := h
  obtain ⟨a, V1, V2, hq, hp, hR⟩ := pr_back (x := xs.getD (i + 1) 0) h
  have h1 : rb_inb (nI (i + 1)) xs.length = true := rb_in_nI (by omega) (by omega)
  have c1 : (nI (i + 1)).toNatClampNeg = i + 1 := nI_clamp (by omega)
  simp only [r163_877, r163_877n, r163_878, r163_879, r163_880, r163_881, r163_882, r163_883, r163_886, r163_886n, r163_887, r163_888, r163_889, r163_890, r163_891, r163_892, r163_895, nI_1, nI_2, nI_3, h1, c1, Nat.reduceAdd, Nat.reduceLeDiff, Nat.reduceLT, Nat.zero_add, List.length_cons, List.length_nil, Option.toList_some, Option.toList_none, List.cons_append, List.nil_append, if_true, eq_self, hq, hp]
  exact K V2 hR
theorem lc_23 (h : rs_RR V) (K : ∀ V2 a4 a5 a6 a7, rs_RR V2 → rb_G (some xs) 163 900 [some (.ref rb_scr), some (.ref 0), some (.ref 281), some (.int (nI i)), a4, a5, a6, a7] [] (rb_W V2) P) : rb_G (some xs) 163 811 [some (.ref rb_scr), some (.ref 0), some (.ref 281), some (.int (nI i)), a4, a5, a6, a7] [] (rb_W V) P := by
  have h0 := h
  obtain ⟨m, t, rd, ph, f, n, h⟩ := h
  obtain ⟨hm, hm2, hm8⟩ := rs_m h
  have e := rs_dep (W := V 12) (c := V 0) (m := m) (ph := ph) (fun i hi => h.1.1.2.2.1 i (by omega))
  obtain ⟨g1, g2, g3⟩ := rn_mean (cDep (V 0) m) hm2 hm8
  have hq : ∀ P, rb_G none 93 0 [some (.ref 0), none] [] (rb_W V) P ↔ P (some (.float (FP.fdiv (FP.i2f (cDep (V 0) m)) (FP.i2f (nI m))))) (rb_W V) := fun P => q_mean (rs_hOK h) g1
  have hp : ∀ P, rb_G none 159 0 [some (.ref 281)] [] (rb_W V) P ↔ P (some (.float (FP.fdiv (FP.i2f (cDep (V 0) m)) (FP.i2f (nI m))))) (rb_W V) := fun P => by
    have := p_mean (P := P) (rs_pOK h rfl) (by rw [e]; exact g1)
    rw [e] at this
    exact this
  generalize FP.fdiv (FP.i2f (cDep (V 0) m)) (FP.i2f (nI m)) = z at g1 g2 g3 hq hp
  have g4 : Op.cmpValue (FP.dcmp (FP.f2d z) (FP.f2d z)) .l = 0 := by rw [g3]; rfl
  simp only [r163_811, r163_811n, r163_812, r163_815, r163_816, r163_818, r163_818n, r163_819, r163_822, r163_823, r163_825, r163_827, r163_829, r163_830, r163_833, r163_835, r163_837, r163_838, r163_841, r163_843, r163_845, r163_846, r163_849, r163_850, r163_851, Nat.reduceAdd, Nat.reduceLeDiff, Nat.reduceLT, Nat.zero_add, List.length_cons, List.length_nil, Option.toList_some, Option.toList_none, List.cons_append, List.nil_append, if_true, eq_self, hq, hp, g2, g4]
  exact K V _ _ _ _ h0
end RL
