/-! One call of the law. -/
section LAW
variable {h : xH} {L i : Nat} {xs : Nat → Int32}
theorem lw_write (R : Rel h) (hi : i + 6 ≤ L) (hL : L ≤ 3072) : ∃ h2, xR (some (L, xs)) 19 M_law 144 [some (.ref 0), some (.ref 1), some (.ref 75), some (.int (nI i))] [] h = xR (some (L, xs)) 19 M_law 880 [some (.ref 0), some (.ref 1), some (.ref 75), some (.int (nI i))] [] h2 ∧ Rel h2 := by
  have p1 : nI i + 1 = nI (i + 1) := nI_add i 1
  have x1 := xin_nI (show i + 1 < L by omega) (show L < 2 ^ 31 by omega)
  have c1 := nI_clamp (show i + 1 < 2 ^ 31 by omega)
  have p2 : nI i + 2 = nI (i + 2) := nI_add i 2
  have x2 := xin_nI (show i + 2 < L by omega) (show L < 2 ^ 31 by omega)
  have c2 := nI_clamp (show i + 2 < 2 ^ 31 by omega)
  have p3 : nI i + 3 = nI (i + 3) := nI_add i 3
  have x3 := xin_nI (show i + 3 < L by omega) (show L < 2 ^ 31 by omega)
  have c3 := nI_clamp (show i + 3 < 2 ^ 31 by omega)
  obtain ⟨r, h1, h2, e1, e2, R2, s1, s2⟩ := op_write R (xs (i + 1)) (((xs (i + 2)).toInt64 <<< ((32 : Int32).toInt64 &&& 63)) ||| ((xs (i + 3)).toInt64 &&& 4294967295))
  obtain ⟨y, rfl⟩ := xC_int e1 rfl
  have d1 := call_v (lv := 19) e1 s1 (by decide) (Nat.le_of_ble_eq_true rfl)
  have d2 := call_v (lv := 19) e2 s2 (by decide) (Nat.le_of_ble_eq_true rfl)
  refine ⟨h2, ?_, R2⟩
  simp only [e_law_144, e_law_145, e_law_146, e_law_147, e_law_148, e_law_149, e_law_150, e_law_151, e_law_152, e_law_153, e_law_154, e_law_155, e_law_156, e_law_158, e_law_159, e_law_160, e_law_161, e_law_162, e_law_163, e_law_164, e_law_165, e_law_168, e_law_169, e_law_170, e_law_173, e_law_174, e_law_175, e_law_176, e_law_177, e_law_178, e_law_179, e_law_180, e_law_181, e_law_182, e_law_183, e_law_184, e_law_185, e_law_187, e_law_188, e_law_189, e_law_190, e_law_191, e_law_192, e_law_193, e_law_194, e_law_197, e_law_198, e_law_199, e_law_202, e_law_205, e_law_206, rsc, Option.isSome_some, Option.map_some, Option.map_none, Option.toList_some, Option.toList_none, List.nil_append, List.cons_append, List.singleton_append, if_true, if_false, ↓reduceIte, and_self, and_true, true_and, and_false, false_and, not_true, not_false_iff, reduceCtorEq, Nat.reduceEqDiff, Nat.reduceAdd, Nat.reduceSub, Nat.reduceMul, Nat.reduceLT, Nat.reduceLeDiff, Nat.reduceBEq, eq_self, ne_eq, Nat.add_eq_zero_iff, Nat.add_left_cancel_iff, Nat.add_right_cancel_iff, Nat.left_eq_add, Nat.add_eq_left, Bool.true_or, Bool.or_true, Bool.or_self, or_self, or_true, true_or, or_false, false_or, decide_true, decide_false, i_10, i_01, d1, d2, p1, x1, c1, p2, x2, c2, p3, x3, c3]
theorem lw_wipe (R : Rel h) (hi : i + 6 ≤ L) (hL : L ≤ 3072) : ∃ h2, xR (some (L, xs)) 19 M_law 207 [some (.ref 0), some (.ref 1), some (.ref 75), some (.int (nI i))] [] h = xR (some (L, xs)) 19 M_law 880 [some (.ref 0), some (.ref 1), some (.ref 75), some (.int (nI i))] [] h2 ∧ Rel h2 := by
  obtain ⟨r, h1, h2, e1, e2, R2, s1, s2⟩ := op_wipe R
  obtain ⟨y, rfl⟩ := xC_int e1 rfl
  have d1 := call_v (lv := 19) e1 s1 (by decide) (Nat.le_of_ble_eq_true rfl)
  have d2 := call_v (lv := 19) e2 s2 (by decide) (Nat.le_of_ble_eq_true rfl)
  refine ⟨h2, ?_, R2⟩
  simp only [e_law_207, e_law_208, e_law_211, e_law_212, e_law_215, e_law_218, e_law_219, rsc, Option.isSome_some, Option.map_some, Option.map_none, Option.toList_some, Option.toList_none, List.nil_append, List.cons_append, List.singleton_append, if_true, if_false, ↓reduceIte, and_self, and_true, true_and, and_false, false_and, not_true, not_false_iff, reduceCtorEq, Nat.reduceEqDiff, Nat.reduceAdd, Nat.reduceSub, Nat.reduceMul, Nat.reduceLT, Nat.reduceLeDiff, Nat.reduceBEq, eq_self, ne_eq, Nat.add_eq_zero_iff, Nat.add_left_cancel_iff, Nat.add_right_cancel_iff, Nat.left_eq_add, Nat.add_eq_left, Bool.true_or, Bool.or_true, Bool.or_self, or_self, or_true, true_or, or_false, false_or, decide_true, decide_false, i_10, i_01, d1, d2]
theorem lw_fault (R : Rel h) (hi : i + 6 ≤ L) (hL : L ≤ 3072) : ∃ h2, xR (some (L, xs)) 19 M_law 220 [some (.ref 0), some (.ref 1), some (.ref 75), some (.int (nI i))] [] h = xR (some (L, xs)) 19 M_law 880 [some (.ref 0), some (.ref 1), some (.ref 75), some (.int (nI i))] [] h2 ∧ Rel h2 := by
  obtain ⟨r, h1, h2, e1, e2, R2, s1, s2⟩ := op_fault R
  obtain ⟨y, rfl⟩ := xC_int e1 rfl
  have d1 := call_v (lv := 19) e1 s1 (by decide) (Nat.le_of_ble_eq_true rfl)
  have d2 := call_v (lv := 19) e2 s2 (by decide) (Nat.le_of_ble_eq_true rfl)
  refine ⟨h2, ?_, R2⟩
  simp only [e_law_220, e_law_221, e_law_224, e_law_225, e_law_228, e_law_231, e_law_232, rsc, Option.isSome_some, Option.map_some, Option.map_none, Option.toList_some, Option.toList_none, List.nil_append, List.cons_append, List.singleton_append, if_true, if_false, ↓reduceIte, and_self, and_true, true_and, and_false, false_and, not_true, not_false_iff, reduceCtorEq, Nat.reduceEqDiff, Nat.reduceAdd, Nat.reduceSub, Nat.reduceMul, Nat.reduceLT, Nat.reduceLeDiff, Nat.reduceBEq, eq_self, ne_eq, Nat.add_eq_zero_iff, Nat.add_left_cancel_iff, Nat.add_right_cancel_iff, Nat.left_eq_add, Nat.add_eq_left, Bool.true_or, Bool.or_true, Bool.or_self, or_self, or_true, true_or, or_false, false_or, decide_true, decide_false, i_10, i_01, d1, d2]
theorem lw_village (R : Rel h) (hi : i + 6 ≤ L) (hL : L ≤ 3072) : ∃ h2, xR (some (L, xs)) 19 M_law 233 [some (.ref 0), some (.ref 1), some (.ref 75), some (.int (nI i))] [] h = xR (some (L, xs)) 19 M_law 880 [some (.ref 0), some (.ref 1), some (.ref 75), some (.int (nI i))] [] h2 ∧ Rel h2 := by
  obtain ⟨r, h1, h2, e1, e2, R2, s1, s2⟩ := op_village R
  obtain ⟨y, rfl⟩ := xC_int e1 rfl
  have d1 := call_v (lv := 19) e1 s1 (by decide) (Nat.le_of_ble_eq_true rfl)
  have d2 := call_v (lv := 19) e2 s2 (by decide) (Nat.le_of_ble_eq_true rfl)
  refine ⟨h2, ?_, R2⟩
  simp only [e_law_233, e_law_234, e_law_237, e_law_238, e_law_241, e_law_244, e_law_245, rsc, Option.isSome_some, Option.map_some, Option.map_none, Option.toList_some, Option.toList_none, List.nil_append, List.cons_append, List.singleton_append, if_true, if_false, ↓reduceIte, and_self, and_true, true_and, and_false, false_and, not_true, not_false_iff, reduceCtorEq, Nat.reduceEqDiff, Nat.reduceAdd, Nat.reduceSub, Nat.reduceMul, Nat.reduceLT, Nat.reduceLeDiff, Nat.reduceBEq, eq_self, ne_eq, Nat.add_eq_zero_iff, Nat.add_left_cancel_iff, Nat.add_right_cancel_iff, Nat.left_eq_add, Nat.add_eq_left, Bool.true_or, Bool.or_true, Bool.or_self, or_self, or_true, true_or, or_false, false_or, decide_true, decide_false, i_10, i_01, d1, d2]
theorem lw_person (R : Rel h) (hi : i + 6 ≤ L) (hL : L ≤ 3072) : ∃ h2, xR (some (L, xs)) 19 M_law 246 [some (.ref 0), some (.ref 1), some (.ref 75), some (.int (nI i))] [] h = xR (some (L, xs)) 19 M_law 880 [some (.ref 0), some (.ref 1), some (.ref 75), some (.int (nI i))] [] h2 ∧ Rel h2 := by
  have p1 : nI i + 1 = nI (i + 1) := nI_add i 1
  have x1 := xin_nI (show i + 1 < L by omega) (show L < 2 ^ 31 by omega)
  have c1 := nI_clamp (show i + 1 < 2 ^ 31 by omega)
  have p2 : nI i + 2 = nI (i + 2) := nI_add i 2
  have x2 := xin_nI (show i + 2 < L by omega) (show L < 2 ^ 31 by omega)
  have c2 := nI_clamp (show i + 2 < 2 ^ 31 by omega)
  obtain ⟨r, h1, h2, e1, e2, R2, s1, s2⟩ := op_person R (xs (i + 1)) (xs (i + 2))
  obtain ⟨y, rfl⟩ := xC_int e1 rfl
  have d1 := call_v (lv := 19) e1 s1 (by decide) (Nat.le_of_ble_eq_true rfl)
  have d2 := call_v (lv := 19) e2 s2 (by decide) (Nat.le_of_ble_eq_true rfl)
  refine ⟨h2, ?_, R2⟩
  simp only [e_law_246, e_law_247, e_law_248, e_law_249, e_law_250, e_law_251, e_law_252, e_law_253, e_law_254, e_law_255, e_law_256, e_law_257, e_law_260, e_law_261, e_law_262, e_law_263, e_law_264, e_law_265, e_law_266, e_law_267, e_law_268, e_law_269, e_law_270, e_law_271, e_law_274, e_law_277, e_law_278, rsc, Option.isSome_some, Option.map_some, Option.map_none, Option.toList_some, Option.toList_none, List.nil_append, List.cons_append, List.singleton_append, if_true, if_false, ↓reduceIte, and_self, and_true, true_and, and_false, false_and, not_true, not_false_iff, reduceCtorEq, Nat.reduceEqDiff, Nat.reduceAdd, Nat.reduceSub, Nat.reduceMul, Nat.reduceLT, Nat.reduceLeDiff, Nat.reduceBEq, eq_self, ne_eq, Nat.add_eq_zero_iff, Nat.add_left_cancel_iff, Nat.add_right_cancel_iff, Nat.left_eq_add, Nat.add_eq_left, Bool.true_or, Bool.or_true, Bool.or_self, or_self, or_true, true_or, or_false, false_or, decide_true, decide_false, i_10, i_01, d1, d2, p1, x1, c1, p2, x2, c2]
theorem lw_thing (R : Rel h) (hi : i + 6 ≤ L) (hL : L ≤ 3072) : ∃ h2, xR (some (L, xs)) 19 M_law 279 [some (.ref 0), some (.ref 1), some (.ref 75), some (.int (nI i))] [] h = xR (some (L, xs)) 19 M_law 880 [some (.ref 0), some (.ref 1), some (.ref 75), some (.int (nI i))] [] h2 ∧ Rel h2 := by
  have p1 : nI i + 1 = nI (i + 1) := nI_add i 1
  have x1 := xin_nI (show i + 1 < L by omega) (show L < 2 ^ 31 by omega)
  have c1 := nI_clamp (show i + 1 < 2 ^ 31 by omega)
  have p2 : nI i + 2 = nI (i + 2) := nI_add i 2
  have x2 := xin_nI (show i + 2 < L by omega) (show L < 2 ^ 31 by omega)
  have c2 := nI_clamp (show i + 2 < 2 ^ 31 by omega)
  obtain ⟨r, h1, h2, e1, e2, R2, s1, s2⟩ := op_thing R (xs (i + 1)) (xs (i + 2))
  obtain ⟨y, rfl⟩ := xC_int e1 rfl
  have d1 := call_v (lv := 19) e1 s1 (by decide) (Nat.le_of_ble_eq_true rfl)
  have d2 := call_v (lv := 19) e2 s2 (by decide) (Nat.le_of_ble_eq_true rfl)
  refine ⟨h2, ?_, R2⟩
  simp only [e_law_279, e_law_280, e_law_281, e_law_282, e_law_283, e_law_284, e_law_285, e_law_286, e_law_287, e_law_288, e_law_289, e_law_290, e_law_293, e_law_294, e_law_295, e_law_296, e_law_297, e_law_298, e_law_299, e_law_300, e_law_301, e_law_302, e_law_303, e_law_304, e_law_307, e_law_310, e_law_311, rsc, Option.isSome_some, Option.map_some, Option.map_none, Option.toList_some, Option.toList_none, List.nil_append, List.cons_append, List.singleton_append, if_true, if_false, ↓reduceIte, and_self, and_true, true_and, and_false, false_and, not_true, not_false_iff, reduceCtorEq, Nat.reduceEqDiff, Nat.reduceAdd, Nat.reduceSub, Nat.reduceMul, Nat.reduceLT, Nat.reduceLeDiff, Nat.reduceBEq, eq_self, ne_eq, Nat.add_eq_zero_iff, Nat.add_left_cancel_iff, Nat.add_right_cancel_iff, Nat.left_eq_add, Nat.add_eq_left, Bool.true_or, Bool.or_true, Bool.or_self, or_self, or_true, true_or, or_false, false_or, decide_true, decide_false, i_10, i_01, d1, d2, p1, x1, c1, p2, x2, c2]
theorem lw_law (R : Rel h) (hi : i + 6 ≤ L) (hL : L ≤ 3072) : ∃ h2, xR (some (L, xs)) 19 M_law 312 [some (.ref 0), some (.ref 1), some (.ref 75), some (.int (nI i))] [] h = xR (some (L, xs)) 19 M_law 880 [some (.ref 0), some (.ref 1), some (.ref 75), some (.int (nI i))] [] h2 ∧ Rel h2 := by
  have p1 : nI i + 1 = nI (i + 1) := nI_add i 1
  have x1 := xin_nI (show i + 1 < L by omega) (show L < 2 ^ 31 by omega)
  have c1 := nI_clamp (show i + 1 < 2 ^ 31 by omega)
  have p2 : nI i + 2 = nI (i + 2) := nI_add i 2
  have x2 := xin_nI (show i + 2 < L by omega) (show L < 2 ^ 31 by omega)
  have c2 := nI_clamp (show i + 2 < 2 ^ 31 by omega)
  obtain ⟨r, h1, h2, e1, e2, R2, s1, s2⟩ := op_law R (xs (i + 1)) (xs (i + 2))
  obtain ⟨y, rfl⟩ := xC_int e1 rfl
  have d1 := call_v (lv := 19) e1 s1 (by decide) (Nat.le_of_ble_eq_true rfl)
  have d2 := call_v (lv := 19) e2 s2 (by decide) (Nat.le_of_ble_eq_true rfl)
  refine ⟨h2, ?_, R2⟩
  simp only [e_law_312, e_law_313, e_law_314, e_law_315, e_law_316, e_law_317, e_law_318, e_law_319, e_law_320, e_law_321, e_law_322, e_law_323, e_law_326, e_law_327, e_law_328, e_law_329, e_law_330, e_law_331, e_law_332, e_law_333, e_law_334, e_law_335, e_law_336, e_law_337, e_law_340, e_law_343, e_law_344, rsc, Option.isSome_some, Option.map_some, Option.map_none, Option.toList_some, Option.toList_none, List.nil_append, List.cons_append, List.singleton_append, if_true, if_false, ↓reduceIte, and_self, and_true, true_and, and_false, false_and, not_true, not_false_iff, reduceCtorEq, Nat.reduceEqDiff, Nat.reduceAdd, Nat.reduceSub, Nat.reduceMul, Nat.reduceLT, Nat.reduceLeDiff, Nat.reduceBEq, eq_self, ne_eq, Nat.add_eq_zero_iff, Nat.add_left_cancel_iff, Nat.add_right_cancel_iff, Nat.left_eq_add, Nat.add_eq_left, Bool.true_or, Bool.or_true, Bool.or_self, or_self, or_true, true_or, or_false, false_or, decide_true, decide_false, i_10, i_01, d1, d2, p1, x1, c1, p2, x2, c2]
theorem lw_lend (R : Rel h) (hi : i + 6 ≤ L) (hL : L ≤ 3072) : ∃ h2, xR (some (L, xs)) 19 M_law 345 [some (.ref 0), some (.ref 1), some (.ref 75), some (.int (nI i))] [] h = xR (some (L, xs)) 19 M_law 880 [some (.ref 0), some (.ref 1), some (.ref 75), some (.int (nI i))] [] h2 ∧ Rel h2 := by
  have p1 : nI i + 1 = nI (i + 1) := nI_add i 1
  have x1 := xin_nI (show i + 1 < L by omega) (show L < 2 ^ 31 by omega)
  have c1 := nI_clamp (show i + 1 < 2 ^ 31 by omega)
  have p2 : nI i + 2 = nI (i + 2) := nI_add i 2
  have x2 := xin_nI (show i + 2 < L by omega) (show L < 2 ^ 31 by omega)
  have c2 := nI_clamp (show i + 2 < 2 ^ 31 by omega)
  obtain ⟨r, h1, h2, e1, e2, R2, s1, s2⟩ := op_lend R (xs (i + 1)) (xs (i + 2))
  obtain ⟨y, rfl⟩ := xC_int e1 rfl
  have d1 := call_v (lv := 19) e1 s1 (by decide) (Nat.le_of_ble_eq_true rfl)
  have d2 := call_v (lv := 19) e2 s2 (by decide) (Nat.le_of_ble_eq_true rfl)
  refine ⟨h2, ?_, R2⟩
  simp only [e_law_345, e_law_346, e_law_347, e_law_348, e_law_349, e_law_350, e_law_351, e_law_352, e_law_353, e_law_354, e_law_355, e_law_356, e_law_359, e_law_360, e_law_361, e_law_362, e_law_363, e_law_364, e_law_365, e_law_366, e_law_367, e_law_368, e_law_369, e_law_370, e_law_373, e_law_376, e_law_377, rsc, Option.isSome_some, Option.map_some, Option.map_none, Option.toList_some, Option.toList_none, List.nil_append, List.cons_append, List.singleton_append, if_true, if_false, ↓reduceIte, and_self, and_true, true_and, and_false, false_and, not_true, not_false_iff, reduceCtorEq, Nat.reduceEqDiff, Nat.reduceAdd, Nat.reduceSub, Nat.reduceMul, Nat.reduceLT, Nat.reduceLeDiff, Nat.reduceBEq, eq_self, ne_eq, Nat.add_eq_zero_iff, Nat.add_left_cancel_iff, Nat.add_right_cancel_iff, Nat.left_eq_add, Nat.add_eq_left, Bool.true_or, Bool.or_true, Bool.or_self, or_self, or_true, true_or, or_false, false_or, decide_true, decide_false, i_10, i_01, d1, d2, p1, x1, c1, p2, x2, c2]
theorem lw_back (R : Rel h) (hi : i + 6 ≤ L) (hL : L ≤ 3072) : ∃ h2, xR (some (L, xs)) 19 M_law 378 [some (.ref 0), some (.ref 1), some (.ref 75), some (.int (nI i))] [] h = xR (some (L, xs)) 19 M_law 880 [some (.ref 0), some (.ref 1), some (.ref 75), some (.int (nI i))] [] h2 ∧ Rel h2 := by
  have p1 : nI i + 1 = nI (i + 1) := nI_add i 1
  have x1 := xin_nI (show i + 1 < L by omega) (show L < 2 ^ 31 by omega)
  have c1 := nI_clamp (show i + 1 < 2 ^ 31 by omega)
  have p2 : nI i + 2 = nI (i + 2) := nI_add i 2
  have x2 := xin_nI (show i + 2 < L by omega) (show L < 2 ^ 31 by omega)
  have c2 := nI_clamp (show i + 2 < 2 ^ 31 by omega)
  obtain ⟨r, h1, h2, e1, e2, R2, s1, s2⟩ := op_back R (xs (i + 1)) (xs (i + 2))
  obtain ⟨y, rfl⟩ := xC_int e1 rfl
  have d1 := call_v (lv := 19) e1 s1 (by decide) (Nat.le_of_ble_eq_true rfl)
  have d2 := call_v (lv := 19) e2 s2 (by decide) (Nat.le_of_ble_eq_true rfl)
  refine ⟨h2, ?_, R2⟩
  simp only [e_law_378, e_law_379, e_law_380, e_law_381, e_law_382, e_law_383, e_law_384, e_law_385, e_law_386, e_law_387, e_law_388, e_law_389, e_law_392, e_law_393, e_law_394, e_law_395, e_law_396, e_law_397, e_law_398, e_law_399, e_law_400, e_law_401, e_law_402, e_law_403, e_law_406, e_law_409, e_law_410, rsc, Option.isSome_some, Option.map_some, Option.map_none, Option.toList_some, Option.toList_none, List.nil_append, List.cons_append, List.singleton_append, if_true, if_false, ↓reduceIte, and_self, and_true, true_and, and_false, false_and, not_true, not_false_iff, reduceCtorEq, Nat.reduceEqDiff, Nat.reduceAdd, Nat.reduceSub, Nat.reduceMul, Nat.reduceLT, Nat.reduceLeDiff, Nat.reduceBEq, eq_self, ne_eq, Nat.add_eq_zero_iff, Nat.add_left_cancel_iff, Nat.add_right_cancel_iff, Nat.left_eq_add, Nat.add_eq_left, Bool.true_or, Bool.or_true, Bool.or_self, or_self, or_true, true_or, or_false, false_or, decide_true, decide_false, i_10, i_01, d1, d2, p1, x1, c1, p2, x2, c2]
theorem lw_day (R : Rel h) (hi : i + 6 ≤ L) (hL : L ≤ 3072) : ∃ h2, xR (some (L, xs)) 19 M_law 411 [some (.ref 0), some (.ref 1), some (.ref 75), some (.int (nI i))] [] h = xR (some (L, xs)) 19 M_law 880 [some (.ref 0), some (.ref 1), some (.ref 75), some (.int (nI i))] [] h2 ∧ Rel h2 := by
  obtain ⟨r, h1, h2, e1, e2, R2, s1, s2⟩ := op_day R
  obtain ⟨y, rfl⟩ := xC_int e1 rfl
  have d1 := call_v (lv := 19) e1 s1 (by decide) (Nat.le_of_ble_eq_true rfl)
  have d2 := call_v (lv := 19) e2 s2 (by decide) (Nat.le_of_ble_eq_true rfl)
  refine ⟨h2, ?_, R2⟩
  simp only [e_law_411, e_law_412, e_law_415, e_law_416, e_law_419, e_law_422, e_law_423, rsc, Option.isSome_some, Option.map_some, Option.map_none, Option.toList_some, Option.toList_none, List.nil_append, List.cons_append, List.singleton_append, if_true, if_false, ↓reduceIte, and_self, and_true, true_and, and_false, false_and, not_true, not_false_iff, reduceCtorEq, Nat.reduceEqDiff, Nat.reduceAdd, Nat.reduceSub, Nat.reduceMul, Nat.reduceLT, Nat.reduceLeDiff, Nat.reduceBEq, eq_self, ne_eq, Nat.add_eq_zero_iff, Nat.add_left_cancel_iff, Nat.add_right_cancel_iff, Nat.left_eq_add, Nat.add_eq_left, Bool.true_or, Bool.or_true, Bool.or_self, or_self, or_true, true_or, or_false, false_or, decide_true, decide_false, i_10, i_01, d1, d2]
theorem lw_undo (R : Rel h) (hi : i + 6 ≤ L) (hL : L ≤ 3072) : ∃ h2, xR (some (L, xs)) 19 M_law 424 [some (.ref 0), some (.ref 1), some (.ref 75), some (.int (nI i))] [] h = xR (some (L, xs)) 19 M_law 880 [some (.ref 0), some (.ref 1), some (.ref 75), some (.int (nI i))] [] h2 ∧ Rel h2 := by
  obtain ⟨r, h1, h2, e1, e2, R2, s1, s2⟩ := op_undo R
  obtain ⟨y, rfl⟩ := xC_int e1 rfl
  have d1 := call_v (lv := 19) e1 s1 (by decide) (Nat.le_of_ble_eq_true rfl)
  have d2 := call_v (lv := 19) e2 s2 (by decide) (Nat.le_of_ble_eq_true rfl)
  refine ⟨h2, ?_, R2⟩
  simp only [e_law_424, e_law_425, e_law_428, e_law_429, e_law_432, e_law_435, e_law_436, rsc, Option.isSome_some, Option.map_some, Option.map_none, Option.toList_some, Option.toList_none, List.nil_append, List.cons_append, List.singleton_append, if_true, if_false, ↓reduceIte, and_self, and_true, true_and, and_false, false_and, not_true, not_false_iff, reduceCtorEq, Nat.reduceEqDiff, Nat.reduceAdd, Nat.reduceSub, Nat.reduceMul, Nat.reduceLT, Nat.reduceLeDiff, Nat.reduceBEq, eq_self, ne_eq, Nat.add_eq_zero_iff, Nat.add_left_cancel_iff, Nat.add_right_cancel_iff, Nat.left_eq_add, Nat.add_eq_left, Bool.true_or, Bool.or_true, Bool.or_self, or_self, or_true, true_or, or_false, false_or, decide_true, decide_false, i_10, i_01, d1, d2]
theorem lw_least (R : Rel h) (hi : i + 6 ≤ L) (hL : L ≤ 3072) : ∃ h2, xR (some (L, xs)) 19 M_law 437 [some (.ref 0), some (.ref 1), some (.ref 75), some (.int (nI i))] [] h = xR (some (L, xs)) 19 M_law 880 [some (.ref 0), some (.ref 1), some (.ref 75), some (.int (nI i))] [] h2 ∧ Rel h2 := by
  have p1 : nI i + 1 = nI (i + 1) := nI_add i 1
  have x1 := xin_nI (show i + 1 < L by omega) (show L < 2 ^ 31 by omega)
  have c1 := nI_clamp (show i + 1 < 2 ^ 31 by omega)
  obtain ⟨r, h1, h2, e1, e2, R2, s1, s2⟩ := op_least R (xs (i + 1))
  obtain ⟨y, rfl⟩ := xC_int e1 rfl
  have d1 := call_v (lv := 19) e1 s1 (by decide) (Nat.le_of_ble_eq_true rfl)
  have d2 := call_v (lv := 19) e2 s2 (by decide) (Nat.le_of_ble_eq_true rfl)
  refine ⟨h2, ?_, R2⟩
  simp only [e_law_437, e_law_438, e_law_439, e_law_440, e_law_441, e_law_442, e_law_443, e_law_446, e_law_447, e_law_448, e_law_449, e_law_450, e_law_451, e_law_452, e_law_455, e_law_458, e_law_459, rsc, Option.isSome_some, Option.map_some, Option.map_none, Option.toList_some, Option.toList_none, List.nil_append, List.cons_append, List.singleton_append, if_true, if_false, ↓reduceIte, and_self, and_true, true_and, and_false, false_and, not_true, not_false_iff, reduceCtorEq, Nat.reduceEqDiff, Nat.reduceAdd, Nat.reduceSub, Nat.reduceMul, Nat.reduceLT, Nat.reduceLeDiff, Nat.reduceBEq, eq_self, ne_eq, Nat.add_eq_zero_iff, Nat.add_left_cancel_iff, Nat.add_right_cancel_iff, Nat.left_eq_add, Nat.add_eq_left, Bool.true_or, Bool.or_true, Bool.or_self, or_self, or_true, true_or, or_false, false_or, decide_true, decide_false, i_10, i_01, d1, d2, p1, x1, c1]
theorem lw_leastAt (R : Rel h) (hi : i + 6 ≤ L) (hL : L ≤ 3072) : ∃ h2, xR (some (L, xs)) 19 M_law 460 [some (.ref 0), some (.ref 1), some (.ref 75), some (.int (nI i))] [] h = xR (some (L, xs)) 19 M_law 880 [some (.ref 0), some (.ref 1), some (.ref 75), some (.int (nI i))] [] h2 ∧ Rel h2 := by
  have p1 : nI i + 1 = nI (i + 1) := nI_add i 1
  have x1 := xin_nI (show i + 1 < L by omega) (show L < 2 ^ 31 by omega)
  have c1 := nI_clamp (show i + 1 < 2 ^ 31 by omega)
  have p2 : nI i + 2 = nI (i + 2) := nI_add i 2
  have x2 := xin_nI (show i + 2 < L by omega) (show L < 2 ^ 31 by omega)
  have c2 := nI_clamp (show i + 2 < 2 ^ 31 by omega)
  obtain ⟨r, h1, h2, e1, e2, R2, s1, s2⟩ := op_leastAt R (xs (i + 1)) (xs (i + 2))
  obtain ⟨y, rfl⟩ := xC_int e1 rfl
  have d1 := call_v (lv := 19) e1 s1 (by decide) (Nat.le_of_ble_eq_true rfl)
  have d2 := call_v (lv := 19) e2 s2 (by decide) (Nat.le_of_ble_eq_true rfl)
  refine ⟨h2, ?_, R2⟩
  simp only [e_law_460, e_law_461, e_law_462, e_law_463, e_law_464, e_law_465, e_law_466, e_law_467, e_law_468, e_law_469, e_law_470, e_law_471, e_law_474, e_law_475, e_law_476, e_law_477, e_law_478, e_law_479, e_law_480, e_law_481, e_law_482, e_law_483, e_law_484, e_law_485, e_law_488, e_law_491, e_law_492, rsc, Option.isSome_some, Option.map_some, Option.map_none, Option.toList_some, Option.toList_none, List.nil_append, List.cons_append, List.singleton_append, if_true, if_false, ↓reduceIte, and_self, and_true, true_and, and_false, false_and, not_true, not_false_iff, reduceCtorEq, Nat.reduceEqDiff, Nat.reduceAdd, Nat.reduceSub, Nat.reduceMul, Nat.reduceLT, Nat.reduceLeDiff, Nat.reduceBEq, eq_self, ne_eq, Nat.add_eq_zero_iff, Nat.add_left_cancel_iff, Nat.add_right_cancel_iff, Nat.left_eq_add, Nat.add_eq_left, Bool.true_or, Bool.or_true, Bool.or_self, or_self, or_true, true_or, or_false, false_or, decide_true, decide_false, i_10, i_01, d1, d2, p1, x1, c1, p2, x2, c2]
theorem lw_cap (R : Rel h) (hi : i + 6 ≤ L) (hL : L ≤ 3072) : ∃ h2, xR (some (L, xs)) 19 M_law 493 [some (.ref 0), some (.ref 1), some (.ref 75), some (.int (nI i))] [] h = xR (some (L, xs)) 19 M_law 880 [some (.ref 0), some (.ref 1), some (.ref 75), some (.int (nI i))] [] h2 ∧ Rel h2 := by
  have p1 : nI i + 1 = nI (i + 1) := nI_add i 1
  have x1 := xin_nI (show i + 1 < L by omega) (show L < 2 ^ 31 by omega)
  have c1 := nI_clamp (show i + 1 < 2 ^ 31 by omega)
  obtain ⟨r, h1, h2, e1, e2, R2, s1, s2⟩ := op_cap R (xs (i + 1))
  obtain ⟨y, rfl⟩ := xC_int e1 rfl
  have d1 := call_v (lv := 19) e1 s1 (by decide) (Nat.le_of_ble_eq_true rfl)
  have d2 := call_v (lv := 19) e2 s2 (by decide) (Nat.le_of_ble_eq_true rfl)
  refine ⟨h2, ?_, R2⟩
  simp only [e_law_493, e_law_494, e_law_495, e_law_496, e_law_497, e_law_498, e_law_499, e_law_502, e_law_503, e_law_504, e_law_505, e_law_506, e_law_507, e_law_508, e_law_511, e_law_514, e_law_515, rsc, Option.isSome_some, Option.map_some, Option.map_none, Option.toList_some, Option.toList_none, List.nil_append, List.cons_append, List.singleton_append, if_true, if_false, ↓reduceIte, and_self, and_true, true_and, and_false, false_and, not_true, not_false_iff, reduceCtorEq, Nat.reduceEqDiff, Nat.reduceAdd, Nat.reduceSub, Nat.reduceMul, Nat.reduceLT, Nat.reduceLeDiff, Nat.reduceBEq, eq_self, ne_eq, Nat.add_eq_zero_iff, Nat.add_left_cancel_iff, Nat.add_right_cancel_iff, Nat.left_eq_add, Nat.add_eq_left, Bool.true_or, Bool.or_true, Bool.or_self, or_self, or_true, true_or, or_false, false_or, decide_true, decide_false, i_10, i_01, d1, d2, p1, x1, c1]
theorem lw_see (R : Rel h) (hi : i + 6 ≤ L) (hL : L ≤ 3072) : ∃ h2, xR (some (L, xs)) 19 M_law 516 [some (.ref 0), some (.ref 1), some (.ref 75), some (.int (nI i))] [] h = xR (some (L, xs)) 19 M_law 880 [some (.ref 0), some (.ref 1), some (.ref 75), some (.int (nI i))] [] h2 ∧ Rel h2 := by
  have p1 : nI i + 1 = nI (i + 1) := nI_add i 1
  have x1 := xin_nI (show i + 1 < L by omega) (show L < 2 ^ 31 by omega)
  have c1 := nI_clamp (show i + 1 < 2 ^ 31 by omega)
  have p2 : nI i + 2 = nI (i + 2) := nI_add i 2
  have x2 := xin_nI (show i + 2 < L by omega) (show L < 2 ^ 31 by omega)
  have c2 := nI_clamp (show i + 2 < 2 ^ 31 by omega)
  have p3 : nI i + 3 = nI (i + 3) := nI_add i 3
  have x3 := xin_nI (show i + 3 < L by omega) (show L < 2 ^ 31 by omega)
  have c3 := nI_clamp (show i + 3 < 2 ^ 31 by omega)
  by_cases w : xs (i + 3) = 0
  · obtain ⟨r, h1, h2, e1, e2, R2, s1, s2⟩ := op_see R (xs (i + 1)) (xs (i + 2)) 0 (Or.inl rfl)
    obtain ⟨y, rfl⟩ := xC_int e1 rfl
    have d1 := call_v (lv := 19) e1 s1 (by decide) (Nat.le_of_ble_eq_true rfl)
    have d2 := call_v (lv := 19) e2 s2 (by decide) (Nat.le_of_ble_eq_true rfl)
    refine ⟨h2, ?_, R2⟩
    simp only [e_law_516, e_law_517, e_law_518, e_law_519, e_law_520, e_law_521, e_law_522, e_law_523, e_law_524, e_law_525, e_law_526, e_law_527, e_law_528, e_law_529, e_law_530, e_law_531, e_law_532, e_law_535, e_law_536, e_law_539, e_law_540, e_law_543, e_law_544, e_law_545, e_law_546, e_law_547, e_law_548, e_law_549, e_law_550, e_law_551, e_law_552, e_law_553, e_law_554, e_law_555, e_law_556, e_law_557, e_law_558, e_law_559, e_law_562, e_law_563, e_law_566, e_law_567, e_law_570, e_law_573, e_law_574, rsc, Option.isSome_some, Option.map_some, Option.map_none, Option.toList_some, Option.toList_none, List.nil_append, List.cons_append, List.singleton_append, if_true, if_false, ↓reduceIte, and_self, and_true, true_and, and_false, false_and, not_true, not_false_iff, reduceCtorEq, Nat.reduceEqDiff, Nat.reduceAdd, Nat.reduceSub, Nat.reduceMul, Nat.reduceLT, Nat.reduceLeDiff, Nat.reduceBEq, eq_self, ne_eq, Nat.add_eq_zero_iff, Nat.add_left_cancel_iff, Nat.add_right_cancel_iff, Nat.left_eq_add, Nat.add_eq_left, Bool.true_or, Bool.or_true, Bool.or_self, or_self, or_true, true_or, or_false, false_or, decide_true, decide_false, i_10, i_01, d1, d2, p1, x1, c1, p2, x2, c2, p3, x3, c3, w]
  · obtain ⟨r, h1, h2, e1, e2, R2, s1, s2⟩ := op_see R (xs (i + 1)) (xs (i + 2)) 1 (Or.inr rfl)
    obtain ⟨y, rfl⟩ := xC_int e1 rfl
    have d1 := call_v (lv := 19) e1 s1 (by decide) (Nat.le_of_ble_eq_true rfl)
    have d2 := call_v (lv := 19) e2 s2 (by decide) (Nat.le_of_ble_eq_true rfl)
    refine ⟨h2, ?_, R2⟩
    simp only [e_law_516, e_law_517, e_law_518, e_law_519, e_law_520, e_law_521, e_law_522, e_law_523, e_law_524, e_law_525, e_law_526, e_law_527, e_law_528, e_law_529, e_law_530, e_law_531, e_law_532, e_law_535, e_law_536, e_law_539, e_law_540, e_law_543, e_law_544, e_law_545, e_law_546, e_law_547, e_law_548, e_law_549, e_law_550, e_law_551, e_law_552, e_law_553, e_law_554, e_law_555, e_law_556, e_law_557, e_law_558, e_law_559, e_law_562, e_law_563, e_law_566, e_law_567, e_law_570, e_law_573, e_law_574, rsc, Option.isSome_some, Option.map_some, Option.map_none, Option.toList_some, Option.toList_none, List.nil_append, List.cons_append, List.singleton_append, if_true, if_false, ↓reduceIte, and_self, and_true, true_and, and_false, false_and, not_true, not_false_iff, reduceCtorEq, Nat.reduceEqDiff, Nat.reduceAdd, Nat.reduceSub, Nat.reduceMul, Nat.reduceLT, Nat.reduceLeDiff, Nat.reduceBEq, eq_self, ne_eq, Nat.add_eq_zero_iff, Nat.add_left_cancel_iff, Nat.add_right_cancel_iff, Nat.left_eq_add, Nat.add_eq_left, Bool.true_or, Bool.or_true, Bool.or_self, or_self, or_true, true_or, or_false, false_or, decide_true, decide_false, i_10, i_01, d1, d2, p1, x1, c1, p2, x2, c2, p3, x3, c3, w]
theorem lw_unsee (R : Rel h) (hi : i + 6 ≤ L) (hL : L ≤ 3072) : ∃ h2, xR (some (L, xs)) 19 M_law 575 [some (.ref 0), some (.ref 1), some (.ref 75), some (.int (nI i))] [] h = xR (some (L, xs)) 19 M_law 880 [some (.ref 0), some (.ref 1), some (.ref 75), some (.int (nI i))] [] h2 ∧ Rel h2 := by
  obtain ⟨r, h1, h2, e1, e2, R2, s1, s2⟩ := op_unsee R
  obtain ⟨y, rfl⟩ := xC_int e1 rfl
  have d1 := call_v (lv := 19) e1 s1 (by decide) (Nat.le_of_ble_eq_true rfl)
  have d2 := call_v (lv := 19) e2 s2 (by decide) (Nat.le_of_ble_eq_true rfl)
  refine ⟨h2, ?_, R2⟩
  simp only [e_law_575, e_law_576, e_law_579, e_law_580, e_law_583, e_law_586, e_law_587, rsc, Option.isSome_some, Option.map_some, Option.map_none, Option.toList_some, Option.toList_none, List.nil_append, List.cons_append, List.singleton_append, if_true, if_false, ↓reduceIte, and_self, and_true, true_and, and_false, false_and, not_true, not_false_iff, reduceCtorEq, Nat.reduceEqDiff, Nat.reduceAdd, Nat.reduceSub, Nat.reduceMul, Nat.reduceLT, Nat.reduceLeDiff, Nat.reduceBEq, eq_self, ne_eq, Nat.add_eq_zero_iff, Nat.add_left_cancel_iff, Nat.add_right_cancel_iff, Nat.left_eq_add, Nat.add_eq_left, Bool.true_or, Bool.or_true, Bool.or_self, or_self, or_true, true_or, or_false, false_or, decide_true, decide_false, i_10, i_01, d1, d2]
theorem lw_hands (R : Rel h) (hi : i + 6 ≤ L) (hL : L ≤ 3072) : ∃ h2, xR (some (L, xs)) 19 M_law 588 [some (.ref 0), some (.ref 1), some (.ref 75), some (.int (nI i))] [] h = xR (some (L, xs)) 19 M_law 880 [some (.ref 0), some (.ref 1), some (.ref 75), some (.int (nI i))] [] h2 ∧ Rel h2 := by
  have p1 : nI i + 1 = nI (i + 1) := nI_add i 1
  have x1 := xin_nI (show i + 1 < L by omega) (show L < 2 ^ 31 by omega)
  have c1 := nI_clamp (show i + 1 < 2 ^ 31 by omega)
  have p2 : nI i + 2 = nI (i + 2) := nI_add i 2
  have x2 := xin_nI (show i + 2 < L by omega) (show L < 2 ^ 31 by omega)
  have c2 := nI_clamp (show i + 2 < 2 ^ 31 by omega)
  obtain ⟨r, h1, h2, e1, e2, R2, s1, s2⟩ := op_hands R (xs (i + 1)) (xs (i + 2))
  obtain ⟨y, rfl⟩ := xC_int e1 rfl
  have d1 := call_v (lv := 19) e1 s1 (by decide) (Nat.le_of_ble_eq_true rfl)
  have d2 := call_v (lv := 19) e2 s2 (by decide) (Nat.le_of_ble_eq_true rfl)
  refine ⟨h2, ?_, R2⟩
  simp only [e_law_588, e_law_589, e_law_590, e_law_591, e_law_592, e_law_593, e_law_594, e_law_595, e_law_596, e_law_597, e_law_598, e_law_599, e_law_602, e_law_603, e_law_604, e_law_605, e_law_606, e_law_607, e_law_608, e_law_609, e_law_610, e_law_611, e_law_612, e_law_613, e_law_616, e_law_619, e_law_620, rsc, Option.isSome_some, Option.map_some, Option.map_none, Option.toList_some, Option.toList_none, List.nil_append, List.cons_append, List.singleton_append, if_true, if_false, ↓reduceIte, and_self, and_true, true_and, and_false, false_and, not_true, not_false_iff, reduceCtorEq, Nat.reduceEqDiff, Nat.reduceAdd, Nat.reduceSub, Nat.reduceMul, Nat.reduceLT, Nat.reduceLeDiff, Nat.reduceBEq, eq_self, ne_eq, Nat.add_eq_zero_iff, Nat.add_left_cancel_iff, Nat.add_right_cancel_iff, Nat.left_eq_add, Nat.add_eq_left, Bool.true_or, Bool.or_true, Bool.or_self, or_self, or_true, true_or, or_false, false_or, decide_true, decide_false, i_10, i_01, d1, d2, p1, x1, c1, p2, x2, c2]
theorem lw_surely (R : Rel h) (hi : i + 6 ≤ L) (hL : L ≤ 3072) : ∃ h2, xR (some (L, xs)) 19 M_law 621 [some (.ref 0), some (.ref 1), some (.ref 75), some (.int (nI i))] [] h = xR (some (L, xs)) 19 M_law 880 [some (.ref 0), some (.ref 1), some (.ref 75), some (.int (nI i))] [] h2 ∧ Rel h2 := by
  have p1 : nI i + 1 = nI (i + 1) := nI_add i 1
  have x1 := xin_nI (show i + 1 < L by omega) (show L < 2 ^ 31 by omega)
  have c1 := nI_clamp (show i + 1 < 2 ^ 31 by omega)
  have p2 : nI i + 2 = nI (i + 2) := nI_add i 2
  have x2 := xin_nI (show i + 2 < L by omega) (show L < 2 ^ 31 by omega)
  have c2 := nI_clamp (show i + 2 < 2 ^ 31 by omega)
  obtain ⟨r, h1, h2, e1, e2, R2, s1, s2⟩ := op_surely R (xs (i + 1)) (xs (i + 2))
  obtain ⟨y, rfl⟩ := xC_int e1 rfl
  have d1 := call_v (lv := 19) e1 s1 (by decide) (Nat.le_of_ble_eq_true rfl)
  have d2 := call_v (lv := 19) e2 s2 (by decide) (Nat.le_of_ble_eq_true rfl)
  refine ⟨h2, ?_, R2⟩
  simp only [e_law_621, e_law_622, e_law_623, e_law_624, e_law_625, e_law_626, e_law_627, e_law_628, e_law_629, e_law_630, e_law_631, e_law_632, e_law_635, e_law_636, e_law_637, e_law_638, e_law_639, e_law_640, e_law_641, e_law_642, e_law_643, e_law_644, e_law_645, e_law_646, e_law_649, e_law_652, e_law_653, rsc, Option.isSome_some, Option.map_some, Option.map_none, Option.toList_some, Option.toList_none, List.nil_append, List.cons_append, List.singleton_append, if_true, if_false, ↓reduceIte, and_self, and_true, true_and, and_false, false_and, not_true, not_false_iff, reduceCtorEq, Nat.reduceEqDiff, Nat.reduceAdd, Nat.reduceSub, Nat.reduceMul, Nat.reduceLT, Nat.reduceLeDiff, Nat.reduceBEq, eq_self, ne_eq, Nat.add_eq_zero_iff, Nat.add_left_cancel_iff, Nat.add_right_cancel_iff, Nat.left_eq_add, Nat.add_eq_left, Bool.true_or, Bool.or_true, Bool.or_self, or_self, or_true, true_or, or_false, false_or, decide_true, decide_false, i_10, i_01, d1, d2, p1, x1, c1, p2, x2, c2]
theorem lw_borrow (R : Rel h) (hi : i + 6 ≤ L) (hL : L ≤ 3072) : ∃ h2, xR (some (L, xs)) 19 M_law 654 [some (.ref 0), some (.ref 1), some (.ref 75), some (.int (nI i))] [] h = xR (some (L, xs)) 19 M_law 880 [some (.ref 0), some (.ref 1), some (.ref 75), some (.int (nI i))] [] h2 ∧ Rel h2 := by
  have p1 : nI i + 1 = nI (i + 1) := nI_add i 1
  have x1 := xin_nI (show i + 1 < L by omega) (show L < 2 ^ 31 by omega)
  have c1 := nI_clamp (show i + 1 < 2 ^ 31 by omega)
  have p2 : nI i + 2 = nI (i + 2) := nI_add i 2
  have x2 := xin_nI (show i + 2 < L by omega) (show L < 2 ^ 31 by omega)
  have c2 := nI_clamp (show i + 2 < 2 ^ 31 by omega)
  have p3 : nI i + 3 = nI (i + 3) := nI_add i 3
  have x3 := xin_nI (show i + 3 < L by omega) (show L < 2 ^ 31 by omega)
  have c3 := nI_clamp (show i + 3 < 2 ^ 31 by omega)
  have p4 : nI i + 4 = nI (i + 4) := nI_add i 4
  have x4 := xin_nI (show i + 4 < L by omega) (show L < 2 ^ 31 by omega)
  have c4 := nI_clamp (show i + 4 < 2 ^ 31 by omega)
  have p5 : nI i + 5 = nI (i + 5) := nI_add i 5
  have x5 := xin_nI (show i + 5 < L by omega) (show L < 2 ^ 31 by omega)
  have c5 := nI_clamp (show i + 5 < 2 ^ 31 by omega)
  by_cases w : xs (i + 5) = 0
  · obtain ⟨r, h1, h2, e1, e2, R2, s1, s2⟩ := op_borrow R (xs (i + 1)) (xs (i + 2)) (xs (i + 3)) (xs (i + 4)) (u := 0) (Or.inl rfl)
    obtain ⟨y, rfl⟩ := xC_long e1 rfl
    have d1 := call_v (lv := 19) e1 s1 (by decide) (Nat.le_of_ble_eq_true rfl)
    have d2 := call_v (lv := 19) e2 s2 (by decide) (Nat.le_of_ble_eq_true rfl)
    refine ⟨h2, ?_, R2⟩
    have lz : lg_cmp y y = 0 := (lg0 y y).mpr rfl
    simp only [e_law_654, e_law_655, e_law_656, e_law_657, e_law_658, e_law_659, e_law_660, e_law_661, e_law_662, e_law_663, e_law_664, e_law_665, e_law_666, e_law_667, e_law_668, e_law_669, e_law_670, e_law_671, e_law_672, e_law_673, e_law_674, e_law_675, e_law_676, e_law_677, e_law_678, e_law_679, e_law_680, e_law_683, e_law_684, e_law_687, e_law_688, e_law_691, e_law_692, e_law_693, e_law_694, e_law_695, e_law_696, e_law_697, e_law_698, e_law_699, e_law_700, e_law_701, e_law_702, e_law_703, e_law_704, e_law_705, e_law_706, e_law_707, e_law_708, e_law_709, e_law_710, e_law_711, e_law_712, e_law_713, e_law_714, e_law_715, e_law_716, e_law_717, e_law_720, e_law_721, e_law_724, e_law_725, e_law_728, e_law_729, e_law_732, e_law_733, rsc, Option.isSome_some, Option.map_some, Option.map_none, Option.toList_some, Option.toList_none, List.nil_append, List.cons_append, List.singleton_append, if_true, if_false, ↓reduceIte, and_self, and_true, true_and, and_false, false_and, not_true, not_false_iff, reduceCtorEq, Nat.reduceEqDiff, Nat.reduceAdd, Nat.reduceSub, Nat.reduceMul, Nat.reduceLT, Nat.reduceLeDiff, Nat.reduceBEq, eq_self, ne_eq, Nat.add_eq_zero_iff, Nat.add_left_cancel_iff, Nat.add_right_cancel_iff, Nat.left_eq_add, Nat.add_eq_left, Bool.true_or, Bool.or_true, Bool.or_self, or_self, or_true, true_or, or_false, false_or, decide_true, decide_false, i_10, i_01, d1, d2, p1, x1, c1, p2, x2, c2, p3, x3, c3, p4, x4, c4, p5, x5, c5, w, lz]
  · obtain ⟨r, h1, h2, e1, e2, R2, s1, s2⟩ := op_borrow R (xs (i + 1)) (xs (i + 2)) (xs (i + 3)) (xs (i + 4)) (u := 1) (Or.inr rfl)
    obtain ⟨y, rfl⟩ := xC_long e1 rfl
    have d1 := call_v (lv := 19) e1 s1 (by decide) (Nat.le_of_ble_eq_true rfl)
    have d2 := call_v (lv := 19) e2 s2 (by decide) (Nat.le_of_ble_eq_true rfl)
    refine ⟨h2, ?_, R2⟩
    have lz : lg_cmp y y = 0 := (lg0 y y).mpr rfl
    simp only [e_law_654, e_law_655, e_law_656, e_law_657, e_law_658, e_law_659, e_law_660, e_law_661, e_law_662, e_law_663, e_law_664, e_law_665, e_law_666, e_law_667, e_law_668, e_law_669, e_law_670, e_law_671, e_law_672, e_law_673, e_law_674, e_law_675, e_law_676, e_law_677, e_law_678, e_law_679, e_law_680, e_law_683, e_law_684, e_law_687, e_law_688, e_law_691, e_law_692, e_law_693, e_law_694, e_law_695, e_law_696, e_law_697, e_law_698, e_law_699, e_law_700, e_law_701, e_law_702, e_law_703, e_law_704, e_law_705, e_law_706, e_law_707, e_law_708, e_law_709, e_law_710, e_law_711, e_law_712, e_law_713, e_law_714, e_law_715, e_law_716, e_law_717, e_law_720, e_law_721, e_law_724, e_law_725, e_law_728, e_law_729, e_law_732, e_law_733, rsc, Option.isSome_some, Option.map_some, Option.map_none, Option.toList_some, Option.toList_none, List.nil_append, List.cons_append, List.singleton_append, if_true, if_false, ↓reduceIte, and_self, and_true, true_and, and_false, false_and, not_true, not_false_iff, reduceCtorEq, Nat.reduceEqDiff, Nat.reduceAdd, Nat.reduceSub, Nat.reduceMul, Nat.reduceLT, Nat.reduceLeDiff, Nat.reduceBEq, eq_self, ne_eq, Nat.add_eq_zero_iff, Nat.add_left_cancel_iff, Nat.add_right_cancel_iff, Nat.left_eq_add, Nat.add_eq_left, Bool.true_or, Bool.or_true, Bool.or_self, or_self, or_true, true_or, or_false, false_or, decide_true, decide_false, i_10, i_01, d1, d2, p1, x1, c1, p2, x2, c2, p3, x3, c3, p4, x4, c4, p5, x5, c5, w, lz]
theorem lw_seed (R : Rel h) (hi : i + 6 ≤ L) (hL : L ≤ 3072) : ∃ h2, xR (some (L, xs)) 19 M_law 734 [some (.ref 0), some (.ref 1), some (.ref 75), some (.int (nI i))] [] h = xR (some (L, xs)) 19 M_law 880 [some (.ref 0), some (.ref 1), some (.ref 75), some (.int (nI i))] [] h2 ∧ Rel h2 := by
  have p1 : nI i + 1 = nI (i + 1) := nI_add i 1
  have x1 := xin_nI (show i + 1 < L by omega) (show L < 2 ^ 31 by omega)
  have c1 := nI_clamp (show i + 1 < 2 ^ 31 by omega)
  have p2 : nI i + 2 = nI (i + 2) := nI_add i 2
  have x2 := xin_nI (show i + 2 < L by omega) (show L < 2 ^ 31 by omega)
  have c2 := nI_clamp (show i + 2 < 2 ^ 31 by omega)
  obtain ⟨r, h1, h2, e1, e2, R2, s1, s2⟩ := op_seed R (((xs (i + 1)).toInt64 <<< ((32 : Int32).toInt64 &&& 63)) ||| ((xs (i + 2)).toInt64 &&& 4294967295))
  obtain ⟨y, rfl⟩ := xC_long e1 rfl
  have d1 := call_v (lv := 19) e1 s1 (by decide) (Nat.le_of_ble_eq_true rfl)
  have d2 := call_v (lv := 19) e2 s2 (by decide) (Nat.le_of_ble_eq_true rfl)
  refine ⟨h2, ?_, R2⟩
  have lz : lg_cmp y y = 0 := (lg0 y y).mpr rfl
  simp only [e_law_734, e_law_735, e_law_736, e_law_737, e_law_738, e_law_739, e_law_740, e_law_741, e_law_743, e_law_744, e_law_745, e_law_746, e_law_747, e_law_748, e_law_749, e_law_750, e_law_753, e_law_754, e_law_755, e_law_758, e_law_759, e_law_760, e_law_761, e_law_762, e_law_763, e_law_764, e_law_765, e_law_767, e_law_768, e_law_769, e_law_770, e_law_771, e_law_772, e_law_773, e_law_774, e_law_777, e_law_778, e_law_779, e_law_782, e_law_783, e_law_786, e_law_787, rsc, Option.isSome_some, Option.map_some, Option.map_none, Option.toList_some, Option.toList_none, List.nil_append, List.cons_append, List.singleton_append, if_true, if_false, ↓reduceIte, and_self, and_true, true_and, and_false, false_and, not_true, not_false_iff, reduceCtorEq, Nat.reduceEqDiff, Nat.reduceAdd, Nat.reduceSub, Nat.reduceMul, Nat.reduceLT, Nat.reduceLeDiff, Nat.reduceBEq, eq_self, ne_eq, Nat.add_eq_zero_iff, Nat.add_left_cancel_iff, Nat.add_right_cancel_iff, Nat.left_eq_add, Nat.add_eq_left, Bool.true_or, Bool.or_true, Bool.or_self, or_self, or_true, true_or, or_false, false_or, decide_true, decide_false, i_10, i_01, d1, d2, p1, x1, c1, p2, x2, c2, lz]
theorem lw_year (R : Rel h) (hi : i + 6 ≤ L) (hL : L ≤ 3072) : ∃ h2, xR (some (L, xs)) 19 M_law 788 [some (.ref 0), some (.ref 1), some (.ref 75), some (.int (nI i))] [] h = xR (some (L, xs)) 19 M_law 880 [some (.ref 0), some (.ref 1), some (.ref 75), some (.int (nI i))] [] h2 ∧ Rel h2 := by
  have p1 : nI i + 1 = nI (i + 1) := nI_add i 1
  have x1 := xin_nI (show i + 1 < L by omega) (show L < 2 ^ 31 by omega)
  have c1 := nI_clamp (show i + 1 < 2 ^ 31 by omega)
  obtain ⟨r, h1, h2, e1, e2, R2, s1, s2⟩ := op_year R (xs (i + 1))
  obtain ⟨y, rfl⟩ := xC_int e1 rfl
  have d1 := call_v (lv := 19) e1 s1 (by decide) (Nat.le_of_ble_eq_true rfl)
  have d2 := call_v (lv := 19) e2 s2 (by decide) (Nat.le_of_ble_eq_true rfl)
  refine ⟨h2, ?_, R2⟩
  simp only [e_law_788, e_law_789, e_law_790, e_law_791, e_law_792, e_law_793, e_law_794, e_law_797, e_law_798, e_law_799, e_law_800, e_law_801, e_law_802, e_law_803, e_law_806, e_law_809, e_law_810, rsc, Option.isSome_some, Option.map_some, Option.map_none, Option.toList_some, Option.toList_none, List.nil_append, List.cons_append, List.singleton_append, if_true, if_false, ↓reduceIte, and_self, and_true, true_and, and_false, false_and, not_true, not_false_iff, reduceCtorEq, Nat.reduceEqDiff, Nat.reduceAdd, Nat.reduceSub, Nat.reduceMul, Nat.reduceLT, Nat.reduceLeDiff, Nat.reduceBEq, eq_self, ne_eq, Nat.add_eq_zero_iff, Nat.add_left_cancel_iff, Nat.add_right_cancel_iff, Nat.left_eq_add, Nat.add_eq_left, Bool.true_or, Bool.or_true, Bool.or_self, or_self, or_true, true_or, or_false, false_or, decide_true, decide_false, i_10, i_01, d1, d2, p1, x1, c1]
theorem lw_keep (R : Rel h) (hi : i + 6 ≤ L) (hL : L ≤ 3072) : ∃ h2, xR (some (L, xs)) 19 M_law 811 [some (.ref 0), some (.ref 1), some (.ref 75), some (.int (nI i))] [] h = xR (some (L, xs)) 19 M_law 880 [some (.ref 0), some (.ref 1), some (.ref 75), some (.int (nI i))] [] h2 ∧ Rel h2 := by
  have p1 : nI i + 1 = nI (i + 1) := nI_add i 1
  have x1 := xin_nI (show i + 1 < L by omega) (show L < 2 ^ 31 by omega)
  have c1 := nI_clamp (show i + 1 < 2 ^ 31 by omega)
  obtain ⟨r, h1, h2, e1, e2, R2, s1, s2⟩ := op_keep R (xs (i + 1))
  obtain ⟨y, rfl⟩ := xC_int e1 rfl
  have d1 := call_v (lv := 19) e1 s1 (by decide) (Nat.le_of_ble_eq_true rfl)
  have d2 := call_v (lv := 19) e2 s2 (by decide) (Nat.le_of_ble_eq_true rfl)
  refine ⟨h2, ?_, R2⟩
  simp only [e_law_811, e_law_812, e_law_813, e_law_814, e_law_815, e_law_816, e_law_817, e_law_820, e_law_821, e_law_822, e_law_823, e_law_824, e_law_825, e_law_826, e_law_829, e_law_832, e_law_833, rsc, Option.isSome_some, Option.map_some, Option.map_none, Option.toList_some, Option.toList_none, List.nil_append, List.cons_append, List.singleton_append, if_true, if_false, ↓reduceIte, and_self, and_true, true_and, and_false, false_and, not_true, not_false_iff, reduceCtorEq, Nat.reduceEqDiff, Nat.reduceAdd, Nat.reduceSub, Nat.reduceMul, Nat.reduceLT, Nat.reduceLeDiff, Nat.reduceBEq, eq_self, ne_eq, Nat.add_eq_zero_iff, Nat.add_left_cancel_iff, Nat.add_right_cancel_iff, Nat.left_eq_add, Nat.add_eq_left, Bool.true_or, Bool.or_true, Bool.or_self, or_self, or_true, true_or, or_false, false_or, decide_true, decide_false, i_10, i_01, d1, d2, p1, x1, c1]
theorem lw_again (R : Rel h) (hi : i + 6 ≤ L) (hL : L ≤ 3072) : ∃ h2, xR (some (L, xs)) 19 M_law 834 [some (.ref 0), some (.ref 1), some (.ref 75), some (.int (nI i))] [] h = xR (some (L, xs)) 19 M_law 880 [some (.ref 0), some (.ref 1), some (.ref 75), some (.int (nI i))] [] h2 ∧ Rel h2 := by
  have p1 : nI i + 1 = nI (i + 1) := nI_add i 1
  have x1 := xin_nI (show i + 1 < L by omega) (show L < 2 ^ 31 by omega)
  have c1 := nI_clamp (show i + 1 < 2 ^ 31 by omega)
  obtain ⟨r, h1, h2, e1, e2, R2, s1, s2⟩ := op_again R (xs (i + 1))
  obtain ⟨y, rfl⟩ := xC_int e1 rfl
  have d1 := call_v (lv := 19) e1 s1 (by decide) (Nat.le_of_ble_eq_true rfl)
  have d2 := call_v (lv := 19) e2 s2 (by decide) (Nat.le_of_ble_eq_true rfl)
  refine ⟨h2, ?_, R2⟩
  simp only [e_law_834, e_law_835, e_law_836, e_law_837, e_law_838, e_law_839, e_law_840, e_law_843, e_law_844, e_law_845, e_law_846, e_law_847, e_law_848, e_law_849, e_law_852, e_law_855, e_law_856, rsc, Option.isSome_some, Option.map_some, Option.map_none, Option.toList_some, Option.toList_none, List.nil_append, List.cons_append, List.singleton_append, if_true, if_false, ↓reduceIte, and_self, and_true, true_and, and_false, false_and, not_true, not_false_iff, reduceCtorEq, Nat.reduceEqDiff, Nat.reduceAdd, Nat.reduceSub, Nat.reduceMul, Nat.reduceLT, Nat.reduceLeDiff, Nat.reduceBEq, eq_self, ne_eq, Nat.add_eq_zero_iff, Nat.add_left_cancel_iff, Nat.add_right_cancel_iff, Nat.left_eq_add, Nat.add_eq_left, Bool.true_or, Bool.or_true, Bool.or_self, or_self, or_true, true_or, or_false, false_or, decide_true, decide_false, i_10, i_01, d1, d2, p1, x1, c1]
theorem lw_count (R : Rel h) (hi : i + 6 ≤ L) (hL : L ≤ 3072) : ∃ h2, xR (some (L, xs)) 19 M_law 857 [some (.ref 0), some (.ref 1), some (.ref 75), some (.int (nI i))] [] h = xR (some (L, xs)) 19 M_law 880 [some (.ref 0), some (.ref 1), some (.ref 75), some (.int (nI i))] [] h2 ∧ Rel h2 := by
  have p1 : nI i + 1 = nI (i + 1) := nI_add i 1
  have x1 := xin_nI (show i + 1 < L by omega) (show L < 2 ^ 31 by omega)
  have c1 := nI_clamp (show i + 1 < 2 ^ 31 by omega)
  obtain ⟨r, h1, h2, e1, e2, R2, s1, s2⟩ := op_count R (xs (i + 1))
  obtain ⟨y, rfl⟩ := xC_int e1 rfl
  have d1 := call_v (lv := 19) e1 s1 (by decide) (Nat.le_of_ble_eq_true rfl)
  have d2 := call_v (lv := 19) e2 s2 (by decide) (Nat.le_of_ble_eq_true rfl)
  refine ⟨h2, ?_, R2⟩
  simp only [e_law_857, e_law_858, e_law_859, e_law_860, e_law_861, e_law_862, e_law_863, e_law_866, e_law_867, e_law_868, e_law_869, e_law_870, e_law_871, e_law_872, e_law_875, e_law_878, e_law_879, rsc, Option.isSome_some, Option.map_some, Option.map_none, Option.toList_some, Option.toList_none, List.nil_append, List.cons_append, List.singleton_append, if_true, if_false, ↓reduceIte, and_self, and_true, true_and, and_false, false_and, not_true, not_false_iff, reduceCtorEq, Nat.reduceEqDiff, Nat.reduceAdd, Nat.reduceSub, Nat.reduceMul, Nat.reduceLT, Nat.reduceLeDiff, Nat.reduceBEq, eq_self, ne_eq, Nat.add_eq_zero_iff, Nat.add_left_cancel_iff, Nat.add_right_cancel_iff, Nat.left_eq_add, Nat.add_eq_left, Bool.true_or, Bool.or_true, Bool.or_self, or_self, or_true, true_or, or_false, false_or, decide_true, decide_false, i_10, i_01, d1, d2, p1, x1, c1]
end LAW
