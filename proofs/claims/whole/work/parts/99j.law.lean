/-! the law: a call, and on -/
section LW
variable {s : Nat → Nat → Int} {g : zG} {L : Nat}
theorem l_state (h : Inv s g) (hL : s 1 0 = (L : Int)) (i : Nat) (hi : i + 6 ≤ L) (h4 : L ≤ 4000) : ∃ g', Ev (39 + 1) 255 156 [some (.inr (60, 0)), some (.inr (11, 0)), some (.inr (12, 0)), some (.inl (i : Int))] [] g = Ev (39 + 1) 255 993 [some (.inr (60, 0)), some (.inr (11, 0)), some (.inr (12, 0)), some (.inl (i : Int))] [] g' ∧ Inv s g' := by
  have s1 : ∀ a x, g 60 a x = s a x := fun a x => by rw [h.2.2.2.2]
  have n1 : ((i : Int) + 1).toNat = i + 1 := by omega
  have z1 : zwr ((i : Int) + 1) = (i : Int) + 1 := zwr_id (by omega) (by omega)
  have b1 : 0 ≤ (i : Int) + 1 ∧ (i : Int) + 1 < (L : Int) := by omega
  obtain ⟨r, g1, g2, e1, e2, e60, h2⟩ := b_state h (s 0 (i + 1))
  have t1 : ∀ a x, g1 60 a x = s a x := fun a x => by rw [e60]
  refine ⟨g2, ?_, h2⟩
  simp only [e255_156, e255_157, e255_158, e255_159, e255_160, e255_161, e255_162, e255_165, e255_166, e255_167, e255_168, e255_169, e255_170, e255_171, e255_174, e255_177, e255_178, zU_app, zbI_some, zbV_some, Int.reduceToNat, Int.reduceLE, Int.reduceLT, Int.reduceEq, Nat.reduceEqDiff, and_self, and_true, true_and, and_false, false_and, if_true, if_false, ne_eq, not_true_eq_false, not_false_eq_true, reduceCtorEq, eq_self, true_or, or_true, or_false, false_or, zbR_some, s1, hL, n1, z1, if_pos b1, e1, t1, e2]
theorem l_person (h : Inv s g) (hL : s 1 0 = (L : Int)) (i : Nat) (hi : i + 6 ≤ L) (h4 : L ≤ 4000) : ∃ g', Ev (39 + 1) 255 179 [some (.inr (60, 0)), some (.inr (11, 0)), some (.inr (12, 0)), some (.inl (i : Int))] [] g = Ev (39 + 1) 255 993 [some (.inr (60, 0)), some (.inr (11, 0)), some (.inr (12, 0)), some (.inl (i : Int))] [] g' ∧ Inv s g' := by
  have s1 : ∀ a x, g 60 a x = s a x := fun a x => by rw [h.2.2.2.2]
  have n1 : ((i : Int) + 1).toNat = i + 1 := by omega
  have z1 : zwr ((i : Int) + 1) = (i : Int) + 1 := zwr_id (by omega) (by omega)
  have b1 : 0 ≤ (i : Int) + 1 ∧ (i : Int) + 1 < (L : Int) := by omega
  obtain ⟨r, g1, g2, e1, e2, e60, h2⟩ := b_person h (s 0 (i + 1))
  have t1 : ∀ a x, g1 60 a x = s a x := fun a x => by rw [e60]
  refine ⟨g2, ?_, h2⟩
  simp only [e255_179, e255_180, e255_181, e255_182, e255_183, e255_184, e255_185, e255_188, e255_189, e255_190, e255_191, e255_192, e255_193, e255_194, e255_197, e255_200, e255_201, zU_app, zbI_some, zbV_some, Int.reduceToNat, Int.reduceLE, Int.reduceLT, Int.reduceEq, Nat.reduceEqDiff, and_self, and_true, true_and, and_false, false_and, if_true, if_false, ne_eq, not_true_eq_false, not_false_eq_true, reduceCtorEq, eq_self, true_or, or_true, or_false, false_or, zbR_some, s1, hL, n1, z1, if_pos b1, e1, t1, e2]
theorem l_rule (h : Inv s g) (hL : s 1 0 = (L : Int)) (i : Nat) (hi : i + 6 ≤ L) (h4 : L ≤ 4000) : ∃ g', Ev (39 + 1) 255 202 [some (.inr (60, 0)), some (.inr (11, 0)), some (.inr (12, 0)), some (.inl (i : Int))] [] g = Ev (39 + 1) 255 993 [some (.inr (60, 0)), some (.inr (11, 0)), some (.inr (12, 0)), some (.inl (i : Int))] [] g' ∧ Inv s g' := by
  have s1 : ∀ a x, g 60 a x = s a x := fun a x => by rw [h.2.2.2.2]
  have n1 : ((i : Int) + 1).toNat = i + 1 := by omega
  have z1 : zwr ((i : Int) + 1) = (i : Int) + 1 := zwr_id (by omega) (by omega)
  have b1 : 0 ≤ (i : Int) + 1 ∧ (i : Int) + 1 < (L : Int) := by omega
  have n2 : ((i : Int) + 2).toNat = i + 2 := by omega
  have z2 : zwr ((i : Int) + 2) = (i : Int) + 2 := zwr_id (by omega) (by omega)
  have b2 : 0 ≤ (i : Int) + 2 ∧ (i : Int) + 2 < (L : Int) := by omega
  have n3 : ((i : Int) + 3).toNat = i + 3 := by omega
  have z3 : zwr ((i : Int) + 3) = (i : Int) + 3 := zwr_id (by omega) (by omega)
  have b3 : 0 ≤ (i : Int) + 3 ∧ (i : Int) + 3 < (L : Int) := by omega
  obtain ⟨r, g1, g2, e1, e2, e60, h2⟩ := b_rule h (s 0 (i + 1)) (s 0 (i + 2)) (s 0 (i + 3))
  have t1 : ∀ a x, g1 60 a x = s a x := fun a x => by rw [e60]
  refine ⟨g2, ?_, h2⟩
  simp only [e255_202, e255_203, e255_204, e255_205, e255_206, e255_207, e255_208, e255_209, e255_210, e255_211, e255_212, e255_213, e255_214, e255_215, e255_216, e255_217, e255_218, e255_221, e255_222, e255_223, e255_224, e255_225, e255_226, e255_227, e255_228, e255_229, e255_230, e255_231, e255_232, e255_233, e255_234, e255_235, e255_236, e255_237, e255_240, e255_243, e255_244, zU_app, zbI_some, zbV_some, Int.reduceToNat, Int.reduceLE, Int.reduceLT, Int.reduceEq, Nat.reduceEqDiff, and_self, and_true, true_and, and_false, false_and, if_true, if_false, ne_eq, not_true_eq_false, not_false_eq_true, reduceCtorEq, eq_self, true_or, or_true, or_false, false_or, zbR_some, s1, hL, n1, z1, if_pos b1, n2, z2, if_pos b2, n3, z3, if_pos b3, e1, t1, e2]
theorem l_set (h : Inv s g) (hL : s 1 0 = (L : Int)) (i : Nat) (hi : i + 6 ≤ L) (h4 : L ≤ 4000) : ∃ g', Ev (39 + 1) 255 245 [some (.inr (60, 0)), some (.inr (11, 0)), some (.inr (12, 0)), some (.inl (i : Int))] [] g = Ev (39 + 1) 255 993 [some (.inr (60, 0)), some (.inr (11, 0)), some (.inr (12, 0)), some (.inl (i : Int))] [] g' ∧ Inv s g' := by
  have s1 : ∀ a x, g 60 a x = s a x := fun a x => by rw [h.2.2.2.2]
  have n1 : ((i : Int) + 1).toNat = i + 1 := by omega
  have z1 : zwr ((i : Int) + 1) = (i : Int) + 1 := zwr_id (by omega) (by omega)
  have b1 : 0 ≤ (i : Int) + 1 ∧ (i : Int) + 1 < (L : Int) := by omega
  have n2 : ((i : Int) + 2).toNat = i + 2 := by omega
  have z2 : zwr ((i : Int) + 2) = (i : Int) + 2 := zwr_id (by omega) (by omega)
  have b2 : 0 ≤ (i : Int) + 2 ∧ (i : Int) + 2 < (L : Int) := by omega
  have n3 : ((i : Int) + 3).toNat = i + 3 := by omega
  have z3 : zwr ((i : Int) + 3) = (i : Int) + 3 := zwr_id (by omega) (by omega)
  have b3 : 0 ≤ (i : Int) + 3 ∧ (i : Int) + 3 < (L : Int) := by omega
  obtain ⟨r, g1, g2, e1, e2, e60, h2⟩ := b_set h (s 0 (i + 1)) (s 0 (i + 2)) (s 0 (i + 3))
  have t1 : ∀ a x, g1 60 a x = s a x := fun a x => by rw [e60]
  refine ⟨g2, ?_, h2⟩
  simp only [e255_245, e255_246, e255_247, e255_248, e255_249, e255_250, e255_251, e255_252, e255_253, e255_254, e255_255, e255_256, e255_257, e255_258, e255_259, e255_260, e255_261, e255_264, e255_265, e255_266, e255_267, e255_268, e255_269, e255_270, e255_271, e255_272, e255_273, e255_274, e255_275, e255_276, e255_277, e255_278, e255_279, e255_280, e255_283, e255_286, e255_287, zU_app, zbI_some, zbV_some, Int.reduceToNat, Int.reduceLE, Int.reduceLT, Int.reduceEq, Nat.reduceEqDiff, and_self, and_true, true_and, and_false, false_and, if_true, if_false, ne_eq, not_true_eq_false, not_false_eq_true, reduceCtorEq, eq_self, true_or, or_true, or_false, false_or, zbR_some, s1, hL, n1, z1, if_pos b1, n2, z2, if_pos b2, n3, z3, if_pos b3, e1, t1, e2]
theorem l_change (h : Inv s g) (hL : s 1 0 = (L : Int)) (i : Nat) (hi : i + 6 ≤ L) (h4 : L ≤ 4000) : ∃ g', Ev (39 + 1) 255 288 [some (.inr (60, 0)), some (.inr (11, 0)), some (.inr (12, 0)), some (.inl (i : Int))] [] g = Ev (39 + 1) 255 993 [some (.inr (60, 0)), some (.inr (11, 0)), some (.inr (12, 0)), some (.inl (i : Int))] [] g' ∧ Inv s g' := by
  have s1 : ∀ a x, g 60 a x = s a x := fun a x => by rw [h.2.2.2.2]
  have n1 : ((i : Int) + 1).toNat = i + 1 := by omega
  have z1 : zwr ((i : Int) + 1) = (i : Int) + 1 := zwr_id (by omega) (by omega)
  have b1 : 0 ≤ (i : Int) + 1 ∧ (i : Int) + 1 < (L : Int) := by omega
  have n2 : ((i : Int) + 2).toNat = i + 2 := by omega
  have z2 : zwr ((i : Int) + 2) = (i : Int) + 2 := zwr_id (by omega) (by omega)
  have b2 : 0 ≤ (i : Int) + 2 ∧ (i : Int) + 2 < (L : Int) := by omega
  obtain ⟨r, g1, g2, e1, e2, e60, h2⟩ := b_change h (s 0 (i + 1)) (s 0 (i + 2))
  have t1 : ∀ a x, g1 60 a x = s a x := fun a x => by rw [e60]
  refine ⟨g2, ?_, h2⟩
  simp only [e255_288, e255_289, e255_290, e255_291, e255_292, e255_293, e255_294, e255_295, e255_296, e255_297, e255_298, e255_299, e255_302, e255_303, e255_304, e255_305, e255_306, e255_307, e255_308, e255_309, e255_310, e255_311, e255_312, e255_313, e255_316, e255_319, e255_320, zU_app, zbI_some, zbV_some, Int.reduceToNat, Int.reduceLE, Int.reduceLT, Int.reduceEq, Nat.reduceEqDiff, and_self, and_true, true_and, and_false, false_and, if_true, if_false, ne_eq, not_true_eq_false, not_false_eq_true, reduceCtorEq, eq_self, true_or, or_true, or_false, false_or, zbR_some, s1, hL, n1, z1, if_pos b1, n2, z2, if_pos b2, e1, t1, e2]
theorem l_feed (h : Inv s g) (hL : s 1 0 = (L : Int)) (i : Nat) (hi : i + 6 ≤ L) (h4 : L ≤ 4000) : ∃ g', Ev (39 + 1) 255 321 [some (.inr (60, 0)), some (.inr (11, 0)), some (.inr (12, 0)), some (.inl (i : Int))] [] g = Ev (39 + 1) 255 993 [some (.inr (60, 0)), some (.inr (11, 0)), some (.inr (12, 0)), some (.inl (i : Int))] [] g' ∧ Inv s g' := by
  have s1 : ∀ a x, g 60 a x = s a x := fun a x => by rw [h.2.2.2.2]
  have n1 : ((i : Int) + 1).toNat = i + 1 := by omega
  have z1 : zwr ((i : Int) + 1) = (i : Int) + 1 := zwr_id (by omega) (by omega)
  have b1 : 0 ≤ (i : Int) + 1 ∧ (i : Int) + 1 < (L : Int) := by omega
  have n2 : ((i : Int) + 2).toNat = i + 2 := by omega
  have z2 : zwr ((i : Int) + 2) = (i : Int) + 2 := zwr_id (by omega) (by omega)
  have b2 : 0 ≤ (i : Int) + 2 ∧ (i : Int) + 2 < (L : Int) := by omega
  have n3 : ((i : Int) + 3).toNat = i + 3 := by omega
  have z3 : zwr ((i : Int) + 3) = (i : Int) + 3 := zwr_id (by omega) (by omega)
  have b3 : 0 ≤ (i : Int) + 3 ∧ (i : Int) + 3 < (L : Int) := by omega
  have n4 : ((i : Int) + 4).toNat = i + 4 := by omega
  have z4 : zwr ((i : Int) + 4) = (i : Int) + 4 := zwr_id (by omega) (by omega)
  have b4 : 0 ≤ (i : Int) + 4 ∧ (i : Int) + 4 < (L : Int) := by omega
  have n5 : ((i : Int) + 5).toNat = i + 5 := by omega
  have z5 : zwr ((i : Int) + 5) = (i : Int) + 5 := zwr_id (by omega) (by omega)
  have b5 : 0 ≤ (i : Int) + 5 ∧ (i : Int) + 5 < (L : Int) := by omega
  obtain ⟨r, g1, g2, e1, e2, e60, h2⟩ := b_feed h (s 0 (i + 1)) (s 0 (i + 2)) (s 0 (i + 3)) (s 0 (i + 4)) (s 0 (i + 5))
  have t1 : ∀ a x, g1 60 a x = s a x := fun a x => by rw [e60]
  refine ⟨g2, ?_, h2⟩
  simp only [e255_321, e255_322, e255_323, e255_324, e255_325, e255_326, e255_327, e255_328, e255_329, e255_330, e255_331, e255_332, e255_333, e255_334, e255_335, e255_336, e255_337, e255_338, e255_339, e255_340, e255_341, e255_342, e255_343, e255_344, e255_345, e255_346, e255_347, e255_350, e255_351, e255_352, e255_353, e255_354, e255_355, e255_356, e255_357, e255_358, e255_359, e255_360, e255_361, e255_362, e255_363, e255_364, e255_365, e255_366, e255_367, e255_368, e255_369, e255_370, e255_371, e255_372, e255_373, e255_374, e255_375, e255_376, e255_379, e255_382, e255_383, zU_app, zbI_some, zbV_some, Int.reduceToNat, Int.reduceLE, Int.reduceLT, Int.reduceEq, Nat.reduceEqDiff, and_self, and_true, true_and, and_false, false_and, if_true, if_false, ne_eq, not_true_eq_false, not_false_eq_true, reduceCtorEq, eq_self, true_or, or_true, or_false, false_or, zbR_some, s1, hL, n1, z1, if_pos b1, n2, z2, if_pos b2, n3, z3, if_pos b3, n4, z4, if_pos b4, n5, z5, if_pos b5, e1, t1, e2]
theorem l_end (h : Inv s g) (hL : s 1 0 = (L : Int)) (i : Nat) (hi : i + 6 ≤ L) (h4 : L ≤ 4000) : ∃ g', Ev (39 + 1) 255 384 [some (.inr (60, 0)), some (.inr (11, 0)), some (.inr (12, 0)), some (.inl (i : Int))] [] g = Ev (39 + 1) 255 993 [some (.inr (60, 0)), some (.inr (11, 0)), some (.inr (12, 0)), some (.inl (i : Int))] [] g' ∧ Inv s g' := by
  have s1 : ∀ a x, g 60 a x = s a x := fun a x => by rw [h.2.2.2.2]
  have n1 : ((i : Int) + 1).toNat = i + 1 := by omega
  have z1 : zwr ((i : Int) + 1) = (i : Int) + 1 := zwr_id (by omega) (by omega)
  have b1 : 0 ≤ (i : Int) + 1 ∧ (i : Int) + 1 < (L : Int) := by omega
  obtain ⟨r, g1, g2, e1, e2, e60, h2⟩ := b_end h (s 0 (i + 1))
  have t1 : ∀ a x, g1 60 a x = s a x := fun a x => by rw [e60]
  refine ⟨g2, ?_, h2⟩
  simp only [e255_384, e255_385, e255_386, e255_387, e255_388, e255_389, e255_390, e255_393, e255_394, e255_395, e255_396, e255_397, e255_398, e255_399, e255_402, e255_405, e255_406, zU_app, zbI_some, zbV_some, Int.reduceToNat, Int.reduceLE, Int.reduceLT, Int.reduceEq, Nat.reduceEqDiff, and_self, and_true, true_and, and_false, false_and, if_true, if_false, ne_eq, not_true_eq_false, not_false_eq_true, reduceCtorEq, eq_self, true_or, or_true, or_false, false_or, zbR_some, s1, hL, n1, z1, if_pos b1, e1, t1, e2]
theorem l_text (h : Inv s g) (hL : s 1 0 = (L : Int)) (i : Nat) (hi : i + 6 ≤ L) (h4 : L ≤ 4000) : ∃ g', Ev (39 + 1) 255 407 [some (.inr (60, 0)), some (.inr (11, 0)), some (.inr (12, 0)), some (.inl (i : Int))] [] g = Ev (39 + 1) 255 993 [some (.inr (60, 0)), some (.inr (11, 0)), some (.inr (12, 0)), some (.inl (i : Int))] [] g' ∧ Inv s g' := by
  have s1 : ∀ a x, g 60 a x = s a x := fun a x => by rw [h.2.2.2.2]
  obtain ⟨r, g1, g2, e1, e2, e60, h2⟩ := b_text h
  have t1 : ∀ a x, g1 60 a x = s a x := fun a x => by rw [e60]
  refine ⟨g2, ?_, h2⟩
  simp only [e255_407, e255_408, e255_411, e255_412, e255_415, e255_418, e255_419, zU_app, zbI_some, zbV_some, Int.reduceToNat, Int.reduceLE, Int.reduceLT, Int.reduceEq, Nat.reduceEqDiff, and_self, and_true, true_and, and_false, false_and, if_true, if_false, ne_eq, not_true_eq_false, not_false_eq_true, reduceCtorEq, eq_self, true_or, or_true, or_false, false_or, zbR_some, s1, hL, e1, t1, e2]
theorem l_fault (h : Inv s g) (hL : s 1 0 = (L : Int)) (i : Nat) (hi : i + 6 ≤ L) (h4 : L ≤ 4000) : ∃ g', Ev (39 + 1) 255 420 [some (.inr (60, 0)), some (.inr (11, 0)), some (.inr (12, 0)), some (.inl (i : Int))] [] g = Ev (39 + 1) 255 993 [some (.inr (60, 0)), some (.inr (11, 0)), some (.inr (12, 0)), some (.inl (i : Int))] [] g' ∧ Inv s g' := by
  have s1 : ∀ a x, g 60 a x = s a x := fun a x => by rw [h.2.2.2.2]
  have n1 : ((i : Int) + 1).toNat = i + 1 := by omega
  have z1 : zwr ((i : Int) + 1) = (i : Int) + 1 := zwr_id (by omega) (by omega)
  have b1 : 0 ≤ (i : Int) + 1 ∧ (i : Int) + 1 < (L : Int) := by omega
  obtain ⟨r, g1, g2, e1, e2, e60, h2⟩ := b_fault h (s 0 (i + 1))
  have t1 : ∀ a x, g1 60 a x = s a x := fun a x => by rw [e60]
  refine ⟨g2, ?_, h2⟩
  simp only [e255_420, e255_421, e255_422, e255_423, e255_424, e255_425, e255_426, e255_429, e255_430, e255_431, e255_432, e255_433, e255_434, e255_435, e255_438, e255_441, e255_442, zU_app, zbI_some, zbV_some, Int.reduceToNat, Int.reduceLE, Int.reduceLT, Int.reduceEq, Nat.reduceEqDiff, and_self, and_true, true_and, and_false, false_and, if_true, if_false, ne_eq, not_true_eq_false, not_false_eq_true, reduceCtorEq, eq_self, true_or, or_true, or_false, false_or, zbR_some, s1, hL, n1, z1, if_pos b1, e1, t1, e2]
theorem l_play (h : Inv s g) (hL : s 1 0 = (L : Int)) (i : Nat) (hi : i + 6 ≤ L) (h4 : L ≤ 4000) : ∃ g', Ev (39 + 1) 255 443 [some (.inr (60, 0)), some (.inr (11, 0)), some (.inr (12, 0)), some (.inl (i : Int))] [] g = Ev (39 + 1) 255 993 [some (.inr (60, 0)), some (.inr (11, 0)), some (.inr (12, 0)), some (.inl (i : Int))] [] g' ∧ Inv s g' := by
  have s1 : ∀ a x, g 60 a x = s a x := fun a x => by rw [h.2.2.2.2]
  have n1 : ((i : Int) + 1).toNat = i + 1 := by omega
  have z1 : zwr ((i : Int) + 1) = (i : Int) + 1 := zwr_id (by omega) (by omega)
  have b1 : 0 ≤ (i : Int) + 1 ∧ (i : Int) + 1 < (L : Int) := by omega
  obtain ⟨r, g1, g2, e1, e2, e60, h2⟩ := b_play h (s 0 (i + 1))
  have t1 : ∀ a x, g1 60 a x = s a x := fun a x => by rw [e60]
  refine ⟨g2, ?_, h2⟩
  simp only [e255_443, e255_444, e255_445, e255_446, e255_447, e255_448, e255_449, e255_452, e255_453, e255_454, e255_455, e255_456, e255_457, e255_458, e255_461, e255_464, e255_465, zU_app, zbI_some, zbV_some, Int.reduceToNat, Int.reduceLE, Int.reduceLT, Int.reduceEq, Nat.reduceEqDiff, and_self, and_true, true_and, and_false, false_and, if_true, if_false, ne_eq, not_true_eq_false, not_false_eq_true, reduceCtorEq, eq_self, true_or, or_true, or_false, false_or, zbR_some, s1, hL, n1, z1, if_pos b1, e1, t1, e2]
theorem l_of (h : Inv s g) (hL : s 1 0 = (L : Int)) (i : Nat) (hi : i + 6 ≤ L) (h4 : L ≤ 4000) : ∃ g', Ev (39 + 1) 255 466 [some (.inr (60, 0)), some (.inr (11, 0)), some (.inr (12, 0)), some (.inl (i : Int))] [] g = Ev (39 + 1) 255 993 [some (.inr (60, 0)), some (.inr (11, 0)), some (.inr (12, 0)), some (.inl (i : Int))] [] g' ∧ Inv s g' := by
  have s1 : ∀ a x, g 60 a x = s a x := fun a x => by rw [h.2.2.2.2]
  have n1 : ((i : Int) + 1).toNat = i + 1 := by omega
  have z1 : zwr ((i : Int) + 1) = (i : Int) + 1 := zwr_id (by omega) (by omega)
  have b1 : 0 ≤ (i : Int) + 1 ∧ (i : Int) + 1 < (L : Int) := by omega
  have n2 : ((i : Int) + 2).toNat = i + 2 := by omega
  have z2 : zwr ((i : Int) + 2) = (i : Int) + 2 := zwr_id (by omega) (by omega)
  have b2 : 0 ≤ (i : Int) + 2 ∧ (i : Int) + 2 < (L : Int) := by omega
  obtain ⟨r, g1, g2, e1, e2, e60, h2⟩ := b_of h (s 0 (i + 1)) (s 0 (i + 2))
  have t1 : ∀ a x, g1 60 a x = s a x := fun a x => by rw [e60]
  refine ⟨g2, ?_, h2⟩
  simp only [e255_466, e255_467, e255_468, e255_469, e255_470, e255_471, e255_472, e255_473, e255_474, e255_475, e255_476, e255_477, e255_480, e255_481, e255_482, e255_483, e255_484, e255_485, e255_486, e255_487, e255_488, e255_489, e255_490, e255_491, e255_494, e255_497, e255_498, zU_app, zbI_some, zbV_some, Int.reduceToNat, Int.reduceLE, Int.reduceLT, Int.reduceEq, Nat.reduceEqDiff, and_self, and_true, true_and, and_false, false_and, if_true, if_false, ne_eq, not_true_eq_false, not_false_eq_true, reduceCtorEq, eq_self, true_or, or_true, or_false, false_or, zbR_some, s1, hL, n1, z1, if_pos b1, n2, z2, if_pos b2, e1, t1, e2]
theorem l_told (h : Inv s g) (hL : s 1 0 = (L : Int)) (i : Nat) (hi : i + 6 ≤ L) (h4 : L ≤ 4000) : ∃ g', Ev (39 + 1) 255 499 [some (.inr (60, 0)), some (.inr (11, 0)), some (.inr (12, 0)), some (.inl (i : Int))] [] g = Ev (39 + 1) 255 993 [some (.inr (60, 0)), some (.inr (11, 0)), some (.inr (12, 0)), some (.inl (i : Int))] [] g' ∧ Inv s g' := by
  have s1 : ∀ a x, g 60 a x = s a x := fun a x => by rw [h.2.2.2.2]
  have n1 : ((i : Int) + 1).toNat = i + 1 := by omega
  have z1 : zwr ((i : Int) + 1) = (i : Int) + 1 := zwr_id (by omega) (by omega)
  have b1 : 0 ≤ (i : Int) + 1 ∧ (i : Int) + 1 < (L : Int) := by omega
  have n2 : ((i : Int) + 2).toNat = i + 2 := by omega
  have z2 : zwr ((i : Int) + 2) = (i : Int) + 2 := zwr_id (by omega) (by omega)
  have b2 : 0 ≤ (i : Int) + 2 ∧ (i : Int) + 2 < (L : Int) := by omega
  obtain ⟨r, g1, g2, e1, e2, e60, h2⟩ := b_told h (s 0 (i + 1)) (s 0 (i + 2))
  have t1 : ∀ a x, g1 60 a x = s a x := fun a x => by rw [e60]
  refine ⟨g2, ?_, h2⟩
  simp only [e255_499, e255_500, e255_501, e255_502, e255_503, e255_504, e255_505, e255_506, e255_507, e255_508, e255_509, e255_510, e255_513, e255_514, e255_515, e255_516, e255_517, e255_518, e255_519, e255_520, e255_521, e255_522, e255_523, e255_524, e255_527, e255_530, e255_531, zU_app, zbI_some, zbV_some, Int.reduceToNat, Int.reduceLE, Int.reduceLT, Int.reduceEq, Nat.reduceEqDiff, and_self, and_true, true_and, and_false, false_and, if_true, if_false, ne_eq, not_true_eq_false, not_false_eq_true, reduceCtorEq, eq_self, true_or, or_true, or_false, false_or, zbR_some, s1, hL, n1, z1, if_pos b1, n2, z2, if_pos b2, e1, t1, e2]
theorem l_has (h : Inv s g) (hL : s 1 0 = (L : Int)) (i : Nat) (hi : i + 6 ≤ L) (h4 : L ≤ 4000) : ∃ g', Ev (39 + 1) 255 532 [some (.inr (60, 0)), some (.inr (11, 0)), some (.inr (12, 0)), some (.inl (i : Int))] [] g = Ev (39 + 1) 255 993 [some (.inr (60, 0)), some (.inr (11, 0)), some (.inr (12, 0)), some (.inl (i : Int))] [] g' ∧ Inv s g' := by
  have s1 : ∀ a x, g 60 a x = s a x := fun a x => by rw [h.2.2.2.2]
  have n1 : ((i : Int) + 1).toNat = i + 1 := by omega
  have z1 : zwr ((i : Int) + 1) = (i : Int) + 1 := zwr_id (by omega) (by omega)
  have b1 : 0 ≤ (i : Int) + 1 ∧ (i : Int) + 1 < (L : Int) := by omega
  obtain ⟨r, g1, g2, e1, e2, e60, h2⟩ := b_has h (s 0 (i + 1))
  have t1 : ∀ a x, g1 60 a x = s a x := fun a x => by rw [e60]
  refine ⟨g2, ?_, h2⟩
  simp only [e255_532, e255_533, e255_534, e255_535, e255_536, e255_537, e255_538, e255_541, e255_542, e255_543, e255_544, e255_545, e255_546, e255_547, e255_550, e255_553, e255_554, zU_app, zbI_some, zbV_some, Int.reduceToNat, Int.reduceLE, Int.reduceLT, Int.reduceEq, Nat.reduceEqDiff, and_self, and_true, true_and, and_false, false_and, if_true, if_false, ne_eq, not_true_eq_false, not_false_eq_true, reduceCtorEq, eq_self, true_or, or_true, or_false, false_or, zbR_some, s1, hL, n1, z1, if_pos b1, e1, t1, e2]
theorem l_book (h : Inv s g) (hL : s 1 0 = (L : Int)) (i : Nat) (hi : i + 6 ≤ L) (h4 : L ≤ 4000) : ∃ g', Ev (39 + 1) 255 555 [some (.inr (60, 0)), some (.inr (11, 0)), some (.inr (12, 0)), some (.inl (i : Int))] [] g = Ev (39 + 1) 255 993 [some (.inr (60, 0)), some (.inr (11, 0)), some (.inr (12, 0)), some (.inl (i : Int))] [] g' ∧ Inv s g' := by
  have s1 : ∀ a x, g 60 a x = s a x := fun a x => by rw [h.2.2.2.2]
  have n1 : ((i : Int) + 1).toNat = i + 1 := by omega
  have z1 : zwr ((i : Int) + 1) = (i : Int) + 1 := zwr_id (by omega) (by omega)
  have b1 : 0 ≤ (i : Int) + 1 ∧ (i : Int) + 1 < (L : Int) := by omega
  have n2 : ((i : Int) + 2).toNat = i + 2 := by omega
  have z2 : zwr ((i : Int) + 2) = (i : Int) + 2 := zwr_id (by omega) (by omega)
  have b2 : 0 ≤ (i : Int) + 2 ∧ (i : Int) + 2 < (L : Int) := by omega
  obtain ⟨r, g1, g2, e1, e2, e60, h2⟩ := b_book h (s 0 (i + 1)) (s 0 (i + 2))
  have t1 : ∀ a x, g1 60 a x = s a x := fun a x => by rw [e60]
  refine ⟨g2, ?_, h2⟩
  simp only [e255_555, e255_556, e255_557, e255_558, e255_559, e255_560, e255_561, e255_562, e255_563, e255_564, e255_565, e255_566, e255_569, e255_570, e255_571, e255_572, e255_573, e255_574, e255_575, e255_576, e255_577, e255_578, e255_579, e255_580, e255_583, e255_586, e255_587, zU_app, zbI_some, zbV_some, Int.reduceToNat, Int.reduceLE, Int.reduceLT, Int.reduceEq, Nat.reduceEqDiff, and_self, and_true, true_and, and_false, false_and, if_true, if_false, ne_eq, not_true_eq_false, not_false_eq_true, reduceCtorEq, eq_self, true_or, or_true, or_false, false_or, zbR_some, s1, hL, n1, z1, if_pos b1, n2, z2, if_pos b2, e1, t1, e2]
theorem l_whose (h : Inv s g) (hL : s 1 0 = (L : Int)) (i : Nat) (hi : i + 6 ≤ L) (h4 : L ≤ 4000) : ∃ g', Ev (39 + 1) 255 588 [some (.inr (60, 0)), some (.inr (11, 0)), some (.inr (12, 0)), some (.inl (i : Int))] [] g = Ev (39 + 1) 255 993 [some (.inr (60, 0)), some (.inr (11, 0)), some (.inr (12, 0)), some (.inl (i : Int))] [] g' ∧ Inv s g' := by
  have s1 : ∀ a x, g 60 a x = s a x := fun a x => by rw [h.2.2.2.2]
  have n1 : ((i : Int) + 1).toNat = i + 1 := by omega
  have z1 : zwr ((i : Int) + 1) = (i : Int) + 1 := zwr_id (by omega) (by omega)
  have b1 : 0 ≤ (i : Int) + 1 ∧ (i : Int) + 1 < (L : Int) := by omega
  obtain ⟨r, g1, g2, e1, e2, e60, h2⟩ := b_whose h (s 0 (i + 1))
  have t1 : ∀ a x, g1 60 a x = s a x := fun a x => by rw [e60]
  refine ⟨g2, ?_, h2⟩
  simp only [e255_588, e255_589, e255_590, e255_591, e255_592, e255_593, e255_594, e255_597, e255_598, e255_599, e255_600, e255_601, e255_602, e255_603, e255_606, e255_609, e255_610, zU_app, zbI_some, zbV_some, Int.reduceToNat, Int.reduceLE, Int.reduceLT, Int.reduceEq, Nat.reduceEqDiff, and_self, and_true, true_and, and_false, false_and, if_true, if_false, ne_eq, not_true_eq_false, not_false_eq_true, reduceCtorEq, eq_self, true_or, or_true, or_false, false_or, zbR_some, s1, hL, n1, z1, if_pos b1, e1, t1, e2]
theorem l_get (h : Inv s g) (hL : s 1 0 = (L : Int)) (i : Nat) (hi : i + 6 ≤ L) (h4 : L ≤ 4000) : ∃ g', Ev (39 + 1) 255 611 [some (.inr (60, 0)), some (.inr (11, 0)), some (.inr (12, 0)), some (.inl (i : Int))] [] g = Ev (39 + 1) 255 993 [some (.inr (60, 0)), some (.inr (11, 0)), some (.inr (12, 0)), some (.inl (i : Int))] [] g' ∧ Inv s g' := by
  have s1 : ∀ a x, g 60 a x = s a x := fun a x => by rw [h.2.2.2.2]
  have n1 : ((i : Int) + 1).toNat = i + 1 := by omega
  have z1 : zwr ((i : Int) + 1) = (i : Int) + 1 := zwr_id (by omega) (by omega)
  have b1 : 0 ≤ (i : Int) + 1 ∧ (i : Int) + 1 < (L : Int) := by omega
  obtain ⟨r, g1, g2, e1, e2, e60, h2⟩ := b_get h (s 0 (i + 1))
  have t1 : ∀ a x, g1 60 a x = s a x := fun a x => by rw [e60]
  refine ⟨g2, ?_, h2⟩
  simp only [e255_611, e255_612, e255_613, e255_614, e255_615, e255_616, e255_617, e255_620, e255_621, e255_622, e255_623, e255_624, e255_625, e255_626, e255_629, e255_632, e255_633, zU_app, zbI_some, zbV_some, Int.reduceToNat, Int.reduceLE, Int.reduceLT, Int.reduceEq, Nat.reduceEqDiff, and_self, and_true, true_and, and_false, false_and, if_true, if_false, ne_eq, not_true_eq_false, not_false_eq_true, reduceCtorEq, eq_self, true_or, or_true, or_false, false_or, zbR_some, s1, hL, n1, z1, if_pos b1, e1, t1, e2]
theorem l_hardest (h : Inv s g) (hL : s 1 0 = (L : Int)) (i : Nat) (hi : i + 6 ≤ L) (h4 : L ≤ 4000) : ∃ g', Ev (39 + 1) 255 634 [some (.inr (60, 0)), some (.inr (11, 0)), some (.inr (12, 0)), some (.inl (i : Int))] [] g = Ev (39 + 1) 255 993 [some (.inr (60, 0)), some (.inr (11, 0)), some (.inr (12, 0)), some (.inl (i : Int))] [] g' ∧ Inv s g' := by
  have s1 : ∀ a x, g 60 a x = s a x := fun a x => by rw [h.2.2.2.2]
  have n1 : ((i : Int) + 1).toNat = i + 1 := by omega
  have z1 : zwr ((i : Int) + 1) = (i : Int) + 1 := zwr_id (by omega) (by omega)
  have b1 : 0 ≤ (i : Int) + 1 ∧ (i : Int) + 1 < (L : Int) := by omega
  obtain ⟨r, g1, g2, e1, e2, e60, h2⟩ := b_hardest h (s 0 (i + 1))
  have t1 : ∀ a x, g1 60 a x = s a x := fun a x => by rw [e60]
  refine ⟨g2, ?_, h2⟩
  simp only [e255_634, e255_635, e255_636, e255_637, e255_638, e255_639, e255_640, e255_643, e255_644, e255_645, e255_646, e255_647, e255_648, e255_649, e255_652, e255_655, e255_656, zU_app, zbI_some, zbV_some, Int.reduceToNat, Int.reduceLE, Int.reduceLT, Int.reduceEq, Nat.reduceEqDiff, and_self, and_true, true_and, and_false, false_and, if_true, if_false, ne_eq, not_true_eq_false, not_false_eq_true, reduceCtorEq, eq_self, true_or, or_true, or_false, false_or, zbR_some, s1, hL, n1, z1, if_pos b1, e1, t1, e2]
theorem l_words (h : Inv s g) (hL : s 1 0 = (L : Int)) (i : Nat) (hi : i + 6 ≤ L) (h4 : L ≤ 4000) : ∃ g', Ev (39 + 1) 255 657 [some (.inr (60, 0)), some (.inr (11, 0)), some (.inr (12, 0)), some (.inl (i : Int))] [] g = Ev (39 + 1) 255 993 [some (.inr (60, 0)), some (.inr (11, 0)), some (.inr (12, 0)), some (.inl (i : Int))] [] g' ∧ Inv s g' := by
  have s1 : ∀ a x, g 60 a x = s a x := fun a x => by rw [h.2.2.2.2]
  have n1 : ((i : Int) + 1).toNat = i + 1 := by omega
  have z1 : zwr ((i : Int) + 1) = (i : Int) + 1 := zwr_id (by omega) (by omega)
  have b1 : 0 ≤ (i : Int) + 1 ∧ (i : Int) + 1 < (L : Int) := by omega
  have n2 : ((i : Int) + 2).toNat = i + 2 := by omega
  have z2 : zwr ((i : Int) + 2) = (i : Int) + 2 := zwr_id (by omega) (by omega)
  have b2 : 0 ≤ (i : Int) + 2 ∧ (i : Int) + 2 < (L : Int) := by omega
  obtain ⟨r, g1, g2, e1, e2, e60, h2⟩ := b_words h (s 0 (i + 1)) (s 0 (i + 2))
  have t1 : ∀ a x, g1 60 a x = s a x := fun a x => by rw [e60]
  refine ⟨g2, ?_, h2⟩
  simp only [e255_657, e255_658, e255_659, e255_660, e255_661, e255_662, e255_663, e255_664, e255_665, e255_666, e255_667, e255_668, e255_671, e255_672, e255_673, e255_674, e255_675, e255_676, e255_677, e255_678, e255_679, e255_680, e255_681, e255_682, e255_685, e255_688, e255_689, zU_app, zbI_some, zbV_some, Int.reduceToNat, Int.reduceLE, Int.reduceLT, Int.reduceEq, Nat.reduceEqDiff, and_self, and_true, true_and, and_false, false_and, if_true, if_false, ne_eq, not_true_eq_false, not_false_eq_true, reduceCtorEq, eq_self, true_or, or_true, or_false, false_or, zbR_some, s1, hL, n1, z1, if_pos b1, n2, z2, if_pos b2, e1, t1, e2]
theorem l_sit (h : Inv s g) (hL : s 1 0 = (L : Int)) (i : Nat) (hi : i + 6 ≤ L) (h4 : L ≤ 4000) : ∃ g', Ev (39 + 1) 255 690 [some (.inr (60, 0)), some (.inr (11, 0)), some (.inr (12, 0)), some (.inl (i : Int))] [] g = Ev (39 + 1) 255 993 [some (.inr (60, 0)), some (.inr (11, 0)), some (.inr (12, 0)), some (.inl (i : Int))] [] g' ∧ Inv s g' := by
  have s1 : ∀ a x, g 60 a x = s a x := fun a x => by rw [h.2.2.2.2]
  have n1 : ((i : Int) + 1).toNat = i + 1 := by omega
  have z1 : zwr ((i : Int) + 1) = (i : Int) + 1 := zwr_id (by omega) (by omega)
  have b1 : 0 ≤ (i : Int) + 1 ∧ (i : Int) + 1 < (L : Int) := by omega
  obtain ⟨r, g1, g2, e1, e2, e60, h2⟩ := b_sit h (s 0 (i + 1))
  have t1 : ∀ a x, g1 60 a x = s a x := fun a x => by rw [e60]
  refine ⟨g2, ?_, h2⟩
  simp only [e255_690, e255_691, e255_692, e255_693, e255_694, e255_695, e255_696, e255_699, e255_700, e255_701, e255_702, e255_703, e255_704, e255_705, e255_708, e255_711, e255_712, zU_app, zbI_some, zbV_some, Int.reduceToNat, Int.reduceLE, Int.reduceLT, Int.reduceEq, Nat.reduceEqDiff, and_self, and_true, true_and, and_false, false_and, if_true, if_false, ne_eq, not_true_eq_false, not_false_eq_true, reduceCtorEq, eq_self, true_or, or_true, or_false, false_or, zbR_some, s1, hL, n1, z1, if_pos b1, e1, t1, e2]
theorem l_plain (h : Inv s g) (hL : s 1 0 = (L : Int)) (i : Nat) (hi : i + 6 ≤ L) (h4 : L ≤ 4000) : ∃ g', Ev (39 + 1) 255 713 [some (.inr (60, 0)), some (.inr (11, 0)), some (.inr (12, 0)), some (.inl (i : Int))] [] g = Ev (39 + 1) 255 993 [some (.inr (60, 0)), some (.inr (11, 0)), some (.inr (12, 0)), some (.inl (i : Int))] [] g' ∧ Inv s g' := by
  have s1 : ∀ a x, g 60 a x = s a x := fun a x => by rw [h.2.2.2.2]
  have n1 : ((i : Int) + 1).toNat = i + 1 := by omega
  have z1 : zwr ((i : Int) + 1) = (i : Int) + 1 := zwr_id (by omega) (by omega)
  have b1 : 0 ≤ (i : Int) + 1 ∧ (i : Int) + 1 < (L : Int) := by omega
  have n2 : ((i : Int) + 2).toNat = i + 2 := by omega
  have z2 : zwr ((i : Int) + 2) = (i : Int) + 2 := zwr_id (by omega) (by omega)
  have b2 : 0 ≤ (i : Int) + 2 ∧ (i : Int) + 2 < (L : Int) := by omega
  have n3 : ((i : Int) + 3).toNat = i + 3 := by omega
  have z3 : zwr ((i : Int) + 3) = (i : Int) + 3 := zwr_id (by omega) (by omega)
  have b3 : 0 ≤ (i : Int) + 3 ∧ (i : Int) + 3 < (L : Int) := by omega
  obtain ⟨r, g1, g2, e1, e2, e60, h2⟩ := b_plain h (s 0 (i + 1)) (s 0 (i + 2)) (s 0 (i + 3))
  have t1 : ∀ a x, g1 60 a x = s a x := fun a x => by rw [e60]
  refine ⟨g2, ?_, h2⟩
  simp only [e255_713, e255_714, e255_715, e255_716, e255_717, e255_718, e255_719, e255_720, e255_721, e255_722, e255_723, e255_724, e255_725, e255_726, e255_727, e255_728, e255_729, e255_732, e255_733, e255_734, e255_735, e255_736, e255_737, e255_738, e255_739, e255_740, e255_741, e255_742, e255_743, e255_744, e255_745, e255_746, e255_747, e255_748, e255_751, e255_754, e255_755, zU_app, zbI_some, zbV_some, Int.reduceToNat, Int.reduceLE, Int.reduceLT, Int.reduceEq, Nat.reduceEqDiff, and_self, and_true, true_and, and_false, false_and, if_true, if_false, ne_eq, not_true_eq_false, not_false_eq_true, reduceCtorEq, eq_self, true_or, or_true, or_false, false_or, zbR_some, s1, hL, n1, z1, if_pos b1, n2, z2, if_pos b2, n3, z3, if_pos b3, e1, t1, e2]
theorem l_third (h : Inv s g) (hL : s 1 0 = (L : Int)) (i : Nat) (hi : i + 6 ≤ L) (h4 : L ≤ 4000) : ∃ g', Ev (39 + 1) 255 756 [some (.inr (60, 0)), some (.inr (11, 0)), some (.inr (12, 0)), some (.inl (i : Int))] [] g = Ev (39 + 1) 255 993 [some (.inr (60, 0)), some (.inr (11, 0)), some (.inr (12, 0)), some (.inl (i : Int))] [] g' ∧ Inv s g' := by
  have s1 : ∀ a x, g 60 a x = s a x := fun a x => by rw [h.2.2.2.2]
  have n1 : ((i : Int) + 1).toNat = i + 1 := by omega
  have z1 : zwr ((i : Int) + 1) = (i : Int) + 1 := zwr_id (by omega) (by omega)
  have b1 : 0 ≤ (i : Int) + 1 ∧ (i : Int) + 1 < (L : Int) := by omega
  have n2 : ((i : Int) + 2).toNat = i + 2 := by omega
  have z2 : zwr ((i : Int) + 2) = (i : Int) + 2 := zwr_id (by omega) (by omega)
  have b2 : 0 ≤ (i : Int) + 2 ∧ (i : Int) + 2 < (L : Int) := by omega
  have n3 : ((i : Int) + 3).toNat = i + 3 := by omega
  have z3 : zwr ((i : Int) + 3) = (i : Int) + 3 := zwr_id (by omega) (by omega)
  have b3 : 0 ≤ (i : Int) + 3 ∧ (i : Int) + 3 < (L : Int) := by omega
  have n4 : ((i : Int) + 4).toNat = i + 4 := by omega
  have z4 : zwr ((i : Int) + 4) = (i : Int) + 4 := zwr_id (by omega) (by omega)
  have b4 : 0 ≤ (i : Int) + 4 ∧ (i : Int) + 4 < (L : Int) := by omega
  obtain ⟨r, g1, g2, e1, e2, e60, h2⟩ := b_third h (s 0 (i + 1)) (s 0 (i + 2)) (s 0 (i + 3)) (s 0 (i + 4))
  have t1 : ∀ a x, g1 60 a x = s a x := fun a x => by rw [e60]
  refine ⟨g2, ?_, h2⟩
  simp only [e255_756, e255_757, e255_758, e255_759, e255_760, e255_761, e255_762, e255_763, e255_764, e255_765, e255_766, e255_767, e255_768, e255_769, e255_770, e255_771, e255_772, e255_773, e255_774, e255_775, e255_776, e255_777, e255_780, e255_781, e255_782, e255_783, e255_784, e255_785, e255_786, e255_787, e255_788, e255_789, e255_790, e255_791, e255_792, e255_793, e255_794, e255_795, e255_796, e255_797, e255_798, e255_799, e255_800, e255_801, e255_804, e255_807, e255_808, zU_app, zbI_some, zbV_some, Int.reduceToNat, Int.reduceLE, Int.reduceLT, Int.reduceEq, Nat.reduceEqDiff, and_self, and_true, true_and, and_false, false_and, if_true, if_false, ne_eq, not_true_eq_false, not_false_eq_true, reduceCtorEq, eq_self, true_or, or_true, or_false, false_or, zbR_some, s1, hL, n1, z1, if_pos b1, n2, z2, if_pos b2, n3, z3, if_pos b3, n4, z4, if_pos b4, e1, t1, e2]
theorem l_fewest (h : Inv s g) (hL : s 1 0 = (L : Int)) (i : Nat) (hi : i + 6 ≤ L) (h4 : L ≤ 4000) : ∃ g', Ev (39 + 1) 255 809 [some (.inr (60, 0)), some (.inr (11, 0)), some (.inr (12, 0)), some (.inl (i : Int))] [] g = Ev (39 + 1) 255 993 [some (.inr (60, 0)), some (.inr (11, 0)), some (.inr (12, 0)), some (.inl (i : Int))] [] g' ∧ Inv s g' := by
  have s1 : ∀ a x, g 60 a x = s a x := fun a x => by rw [h.2.2.2.2]
  have n1 : ((i : Int) + 1).toNat = i + 1 := by omega
  have z1 : zwr ((i : Int) + 1) = (i : Int) + 1 := zwr_id (by omega) (by omega)
  have b1 : 0 ≤ (i : Int) + 1 ∧ (i : Int) + 1 < (L : Int) := by omega
  have n2 : ((i : Int) + 2).toNat = i + 2 := by omega
  have z2 : zwr ((i : Int) + 2) = (i : Int) + 2 := zwr_id (by omega) (by omega)
  have b2 : 0 ≤ (i : Int) + 2 ∧ (i : Int) + 2 < (L : Int) := by omega
  have n3 : ((i : Int) + 3).toNat = i + 3 := by omega
  have z3 : zwr ((i : Int) + 3) = (i : Int) + 3 := zwr_id (by omega) (by omega)
  have b3 : 0 ≤ (i : Int) + 3 ∧ (i : Int) + 3 < (L : Int) := by omega
  obtain ⟨r, g1, g2, e1, e2, e60, h2⟩ := b_fewest h (s 0 (i + 1)) (s 0 (i + 2)) (s 0 (i + 3))
  have t1 : ∀ a x, g1 60 a x = s a x := fun a x => by rw [e60]
  refine ⟨g2, ?_, h2⟩
  simp only [e255_809, e255_810, e255_811, e255_812, e255_813, e255_814, e255_815, e255_816, e255_817, e255_818, e255_819, e255_820, e255_821, e255_822, e255_823, e255_824, e255_825, e255_828, e255_829, e255_830, e255_831, e255_832, e255_833, e255_834, e255_835, e255_836, e255_837, e255_838, e255_839, e255_840, e255_841, e255_842, e255_843, e255_844, e255_847, e255_850, e255_851, zU_app, zbI_some, zbV_some, Int.reduceToNat, Int.reduceLE, Int.reduceLT, Int.reduceEq, Nat.reduceEqDiff, and_self, and_true, true_and, and_false, false_and, if_true, if_false, ne_eq, not_true_eq_false, not_false_eq_true, reduceCtorEq, eq_self, true_or, or_true, or_false, false_or, zbR_some, s1, hL, n1, z1, if_pos b1, n2, z2, if_pos b2, n3, z3, if_pos b3, e1, t1, e2]
theorem l_seating (h : Inv s g) (hL : s 1 0 = (L : Int)) (i : Nat) (hi : i + 6 ≤ L) (h4 : L ≤ 4000) : ∃ g', Ev (39 + 1) 255 852 [some (.inr (60, 0)), some (.inr (11, 0)), some (.inr (12, 0)), some (.inl (i : Int))] [] g = Ev (39 + 1) 255 993 [some (.inr (60, 0)), some (.inr (11, 0)), some (.inr (12, 0)), some (.inl (i : Int))] [] g' ∧ Inv s g' := by
  have s1 : ∀ a x, g 60 a x = s a x := fun a x => by rw [h.2.2.2.2]
  have n1 : ((i : Int) + 1).toNat = i + 1 := by omega
  have z1 : zwr ((i : Int) + 1) = (i : Int) + 1 := zwr_id (by omega) (by omega)
  have b1 : 0 ≤ (i : Int) + 1 ∧ (i : Int) + 1 < (L : Int) := by omega
  have n2 : ((i : Int) + 2).toNat = i + 2 := by omega
  have z2 : zwr ((i : Int) + 2) = (i : Int) + 2 := zwr_id (by omega) (by omega)
  have b2 : 0 ≤ (i : Int) + 2 ∧ (i : Int) + 2 < (L : Int) := by omega
  obtain ⟨r, g1, g2, e1, e2, e60, h2⟩ := b_seating h (s 0 (i + 1)) (s 0 (i + 2))
  have t1 : ∀ a x, g1 60 a x = s a x := fun a x => by rw [e60]
  refine ⟨g2, ?_, h2⟩
  simp only [e255_852, e255_853, e255_854, e255_855, e255_856, e255_857, e255_858, e255_859, e255_860, e255_861, e255_862, e255_863, e255_866, e255_867, e255_868, e255_869, e255_870, e255_871, e255_872, e255_873, e255_874, e255_875, e255_876, e255_877, e255_880, e255_883, e255_884, zU_app, zbI_some, zbV_some, Int.reduceToNat, Int.reduceLE, Int.reduceLT, Int.reduceEq, Nat.reduceEqDiff, and_self, and_true, true_and, and_false, false_and, if_true, if_false, ne_eq, not_true_eq_false, not_false_eq_true, reduceCtorEq, eq_self, true_or, or_true, or_false, false_or, zbR_some, s1, hL, n1, z1, if_pos b1, n2, z2, if_pos b2, e1, t1, e2]
theorem l_behind (h : Inv s g) (hL : s 1 0 = (L : Int)) (i : Nat) (hi : i + 6 ≤ L) (h4 : L ≤ 4000) : ∃ g', Ev (39 + 1) 255 885 [some (.inr (60, 0)), some (.inr (11, 0)), some (.inr (12, 0)), some (.inl (i : Int))] [] g = Ev (39 + 1) 255 993 [some (.inr (60, 0)), some (.inr (11, 0)), some (.inr (12, 0)), some (.inl (i : Int))] [] g' ∧ Inv s g' := by
  have s1 : ∀ a x, g 60 a x = s a x := fun a x => by rw [h.2.2.2.2]
  have n1 : ((i : Int) + 1).toNat = i + 1 := by omega
  have z1 : zwr ((i : Int) + 1) = (i : Int) + 1 := zwr_id (by omega) (by omega)
  have b1 : 0 ≤ (i : Int) + 1 ∧ (i : Int) + 1 < (L : Int) := by omega
  have n2 : ((i : Int) + 2).toNat = i + 2 := by omega
  have z2 : zwr ((i : Int) + 2) = (i : Int) + 2 := zwr_id (by omega) (by omega)
  have b2 : 0 ≤ (i : Int) + 2 ∧ (i : Int) + 2 < (L : Int) := by omega
  obtain ⟨r, g1, g2, e1, e2, e60, h2⟩ := b_behind h (s 0 (i + 1)) (s 0 (i + 2))
  have t1 : ∀ a x, g1 60 a x = s a x := fun a x => by rw [e60]
  refine ⟨g2, ?_, h2⟩
  simp only [e255_885, e255_886, e255_887, e255_888, e255_889, e255_890, e255_891, e255_892, e255_893, e255_894, e255_895, e255_896, e255_899, e255_900, e255_901, e255_902, e255_903, e255_904, e255_905, e255_906, e255_907, e255_908, e255_909, e255_910, e255_913, e255_916, e255_917, zU_app, zbI_some, zbV_some, Int.reduceToNat, Int.reduceLE, Int.reduceLT, Int.reduceEq, Nat.reduceEqDiff, and_self, and_true, true_and, and_false, false_and, if_true, if_false, ne_eq, not_true_eq_false, not_false_eq_true, reduceCtorEq, eq_self, true_or, or_true, or_false, false_or, zbR_some, s1, hL, n1, z1, if_pos b1, n2, z2, if_pos b2, e1, t1, e2]
theorem l_undo (h : Inv s g) (hL : s 1 0 = (L : Int)) (i : Nat) (hi : i + 6 ≤ L) (h4 : L ≤ 4000) : ∃ g', Ev (39 + 1) 255 918 [some (.inr (60, 0)), some (.inr (11, 0)), some (.inr (12, 0)), some (.inl (i : Int))] [] g = Ev (39 + 1) 255 993 [some (.inr (60, 0)), some (.inr (11, 0)), some (.inr (12, 0)), some (.inl (i : Int))] [] g' ∧ Inv s g' := by
  have s1 : ∀ a x, g 60 a x = s a x := fun a x => by rw [h.2.2.2.2]
  obtain ⟨r, g1, g2, e1, e2, e60, h2⟩ := b_undo h
  have t1 : ∀ a x, g1 60 a x = s a x := fun a x => by rw [e60]
  refine ⟨g2, ?_, h2⟩
  simp only [e255_918, e255_919, e255_922, e255_923, e255_926, e255_929, e255_930, zU_app, zbI_some, zbV_some, Int.reduceToNat, Int.reduceLE, Int.reduceLT, Int.reduceEq, Nat.reduceEqDiff, and_self, and_true, true_and, and_false, false_and, if_true, if_false, ne_eq, not_true_eq_false, not_false_eq_true, reduceCtorEq, eq_self, true_or, or_true, or_false, false_or, zbR_some, s1, hL, e1, t1, e2]
theorem l_image (h : Inv s g) (hL : s 1 0 = (L : Int)) (i : Nat) (hi : i + 6 ≤ L) (h4 : L ≤ 4000) : ∃ g', Ev (39 + 1) 255 931 [some (.inr (60, 0)), some (.inr (11, 0)), some (.inr (12, 0)), some (.inl (i : Int))] [] g = Ev (39 + 1) 255 993 [some (.inr (60, 0)), some (.inr (11, 0)), some (.inr (12, 0)), some (.inl (i : Int))] [] g' ∧ Inv s g' := by
  have s1 : ∀ a x, g 60 a x = s a x := fun a x => by rw [h.2.2.2.2]
  have n1 : ((i : Int) + 1).toNat = i + 1 := by omega
  have z1 : zwr ((i : Int) + 1) = (i : Int) + 1 := zwr_id (by omega) (by omega)
  have b1 : 0 ≤ (i : Int) + 1 ∧ (i : Int) + 1 < (L : Int) := by omega
  by_cases q : s 0 (i + 1) = 0
  · obtain ⟨r, g1, g2, e1, e2, e60, h2⟩ := b_image0 h
    have t1 : ∀ a x, g1 60 a x = s a x := fun a x => by rw [e60]
    refine ⟨g2, ?_, h2⟩
    simp only [e255_931, e255_932, e255_933, e255_934, e255_935, e255_936, e255_937, e255_940, e255_941, e255_944, e255_945, e255_948, e255_949, e255_950, e255_951, e255_952, e255_953, e255_954, e255_957, e255_958, e255_961, e255_962, e255_965, e255_968, e255_969, zU_app, zbI_some, zbV_some, Int.reduceToNat, Int.reduceLE, Int.reduceLT, Int.reduceEq, Nat.reduceEqDiff, and_self, and_true, true_and, and_false, false_and, if_true, if_false, ne_eq, not_true_eq_false, not_false_eq_true, reduceCtorEq, eq_self, true_or, or_true, or_false, false_or, zbR_some, s1, hL, n1, z1, if_pos b1, if_pos q, e1, t1, e2]
  · obtain ⟨r, g1, g2, e1, e2, e60, h2⟩ := b_image1 h
    have t1 : ∀ a x, g1 60 a x = s a x := fun a x => by rw [e60]
    refine ⟨g2, ?_, h2⟩
    simp only [e255_931, e255_932, e255_933, e255_934, e255_935, e255_936, e255_937, e255_940, e255_941, e255_944, e255_945, e255_948, e255_949, e255_950, e255_951, e255_952, e255_953, e255_954, e255_957, e255_958, e255_961, e255_962, e255_965, e255_968, e255_969, zU_app, zbI_some, zbV_some, Int.reduceToNat, Int.reduceLE, Int.reduceLT, Int.reduceEq, Nat.reduceEqDiff, and_self, and_true, true_and, and_false, false_and, if_true, if_false, ne_eq, not_true_eq_false, not_false_eq_true, reduceCtorEq, eq_self, true_or, or_true, or_false, false_or, zbR_some, s1, hL, n1, z1, if_pos b1, if_neg q, e1, t1, e2]
theorem l_look (h : Inv s g) (hL : s 1 0 = (L : Int)) (i : Nat) (hi : i + 6 ≤ L) (h4 : L ≤ 4000) : ∃ g', Ev (39 + 1) 255 970 [some (.inr (60, 0)), some (.inr (11, 0)), some (.inr (12, 0)), some (.inl (i : Int))] [] g = Ev (39 + 1) 255 993 [some (.inr (60, 0)), some (.inr (11, 0)), some (.inr (12, 0)), some (.inl (i : Int))] [] g' ∧ Inv s g' := by
  have s1 : ∀ a x, g 60 a x = s a x := fun a x => by rw [h.2.2.2.2]
  have n1 : ((i : Int) + 1).toNat = i + 1 := by omega
  have z1 : zwr ((i : Int) + 1) = (i : Int) + 1 := zwr_id (by omega) (by omega)
  have b1 : 0 ≤ (i : Int) + 1 ∧ (i : Int) + 1 < (L : Int) := by omega
  obtain ⟨r, g1, g2, e1, e2, e60, h2⟩ := b_look h (s 0 (i + 1))
  have t1 : ∀ a x, g1 60 a x = s a x := fun a x => by rw [e60]
  refine ⟨g2, ?_, h2⟩
  simp only [e255_970, e255_971, e255_972, e255_973, e255_974, e255_975, e255_976, e255_979, e255_980, e255_981, e255_982, e255_983, e255_984, e255_985, e255_988, e255_991, e255_992, zU_app, zbI_some, zbV_some, Int.reduceToNat, Int.reduceLE, Int.reduceLT, Int.reduceEq, Nat.reduceEqDiff, and_self, and_true, true_and, and_false, false_and, if_true, if_false, ne_eq, not_true_eq_false, not_false_eq_true, reduceCtorEq, eq_self, true_or, or_true, or_false, false_or, zbR_some, s1, hL, n1, z1, if_pos b1, e1, t1, e2]
theorem l_on (x i : Nat) (hx : i + 6 < 10000) : Ev (39 + 1) 255 993 [some (.inr (60, 0)), some (.inr (11, 0)), some (.inr (12, 0)), some (.inl (i : Int))] [] g = Ev (39 + 1) 255 18 [some (.inr (60, 0)), some (.inr (11, 0)), some (.inr (12, 0)), some (.inl ((i + 6 : Nat) : Int))] [] g := by
  simp only [e255_993, e255_996]
  rw [zwr_id (by omega) (by omega)]
  rfl
set_option maxHeartbeats 1000000 in
theorem l_step (h : Inv s g) (hL : s 1 0 = (L : Int)) (i : Nat) (hi : i + 6 ≤ L) (h4 : L ≤ 4000) (x : Int) : ∃ g', Ev (39 + 1) 255 33 [some (.inr (60, 0)), some (.inr (11, 0)), some (.inr (12, 0)), some (.inl (i : Int))] [.inl x] g = Ev (39 + 1) 255 993 [some (.inr (60, 0)), some (.inr (11, 0)), some (.inr (12, 0)), some (.inl (i : Int))] [] g' ∧ Inv s g' := by
  by_cases q0 : x = 0
  · subst q0
    rw [e255_33_c0]
    exact l_state h hL i hi h4
  by_cases q1 : x = 1
  · subst q1
    rw [e255_33_c1]
    exact l_person h hL i hi h4
  by_cases q2 : x = 2
  · subst q2
    rw [e255_33_c2]
    exact l_rule h hL i hi h4
  by_cases q3 : x = 3
  · subst q3
    rw [e255_33_c3]
    exact l_set h hL i hi h4
  by_cases q4 : x = 4
  · subst q4
    rw [e255_33_c4]
    exact l_change h hL i hi h4
  by_cases q5 : x = 5
  · subst q5
    rw [e255_33_c5]
    exact l_feed h hL i hi h4
  by_cases q6 : x = 6
  · subst q6
    rw [e255_33_c6]
    exact l_end h hL i hi h4
  by_cases q7 : x = 7
  · subst q7
    rw [e255_33_c7]
    exact l_text h hL i hi h4
  by_cases q8 : x = 8
  · subst q8
    rw [e255_33_c8]
    exact l_fault h hL i hi h4
  by_cases q9 : x = 9
  · subst q9
    rw [e255_33_c9]
    exact l_play h hL i hi h4
  by_cases q10 : x = 10
  · subst q10
    rw [e255_33_c10]
    exact l_of h hL i hi h4
  by_cases q11 : x = 11
  · subst q11
    rw [e255_33_c11]
    exact l_told h hL i hi h4
  by_cases q12 : x = 12
  · subst q12
    rw [e255_33_c12]
    exact l_has h hL i hi h4
  by_cases q13 : x = 13
  · subst q13
    rw [e255_33_c13]
    exact l_book h hL i hi h4
  by_cases q14 : x = 14
  · subst q14
    rw [e255_33_c14]
    exact l_whose h hL i hi h4
  by_cases q15 : x = 15
  · subst q15
    rw [e255_33_c15]
    exact l_get h hL i hi h4
  by_cases q16 : x = 16
  · subst q16
    rw [e255_33_c16]
    exact l_hardest h hL i hi h4
  by_cases q17 : x = 17
  · subst q17
    rw [e255_33_c17]
    exact l_words h hL i hi h4
  by_cases q18 : x = 18
  · subst q18
    rw [e255_33_c18]
    exact l_sit h hL i hi h4
  by_cases q19 : x = 19
  · subst q19
    rw [e255_33_c19]
    exact l_plain h hL i hi h4
  by_cases q20 : x = 20
  · subst q20
    rw [e255_33_c20]
    exact l_third h hL i hi h4
  by_cases q21 : x = 21
  · subst q21
    rw [e255_33_c21]
    exact l_fewest h hL i hi h4
  by_cases q22 : x = 22
  · subst q22
    rw [e255_33_c22]
    exact l_seating h hL i hi h4
  by_cases q23 : x = 23
  · subst q23
    rw [e255_33_c23]
    exact l_behind h hL i hi h4
  by_cases q24 : x = 24
  · subst q24
    rw [e255_33_c24]
    exact l_undo h hL i hi h4
  by_cases q25 : x = 25
  · subst q25
    rw [e255_33_c25]
    exact l_image h hL i hi h4
  by_cases q26 : x = 26
  · subst q26
    rw [e255_33_c26]
    exact l_look h hL i hi h4
  rw [e255_33_def _ _ _ _ (by omega)]
  exact ⟨g, rfl, h⟩
theorem l_loop (hL : s 1 0 = (L : Int)) (h4 : L ≤ 4000) : ∀ (m i : Nat) (g : zG), Inv s g → i ≤ L + 6 → L ≤ i + 6 * m + 5 → ∃ g', Ev (39 + 1) 255 18 [some (.inr (60, 0)), some (.inr (11, 0)), some (.inr (12, 0)), some (.inl (i : Int))] [] g = some (some (.inl 1), g') := by
  intro m
  induction m with
  | zero =>
    intro i g h hi hm
    have s1 : ∀ a x, g 60 a x = s a x := fun a x => by rw [h.2.2.2.2]
    refine ⟨g, ?_⟩
    rw [e255_18]
    simp only [e255_19, e255_20, e255_21, e255_23, e255_24, e255_27, e255_28, e255_29, e255_30, e255_32, e255_999, e255_1000, zU_app, zbI_some, zbV_some, Int.reduceToNat, Int.reduceLE, Int.reduceLT, Int.reduceEq, Nat.reduceEqDiff, and_self, and_true, true_and, and_false, false_and, if_true, if_false, ne_eq, not_true_eq_false, not_false_eq_true, reduceCtorEq, eq_self, true_or, or_true, or_false, false_or, zbR_some, s1, hL]
    rw [zwr_id (by omega) (by omega), if_pos (by omega)]
  | succ m ih =>
    intro i g h hi hm
    have s1 : ∀ a x, g 60 a x = s a x := fun a x => by rw [h.2.2.2.2]
    by_cases q : i + 6 ≤ L
    · obtain ⟨g1, e1, h1⟩ := l_step h hL i q h4 (zand (s 0 i) 31)
      obtain ⟨g2, e2⟩ := ih (i + 6) g1 h1 (by omega) (by omega)
      refine ⟨g2, ?_⟩
      rw [← e2, ← l_on 0 i (by omega), ← e1, e255_18]
      simp only [e255_19, e255_20, e255_21, e255_23, e255_24, e255_27, e255_28, e255_29, e255_30, e255_32, zU_app, zbI_some, zbV_some, Int.reduceToNat, Int.reduceLE, Int.reduceLT, Int.reduceEq, Nat.reduceEqDiff, and_self, and_true, true_and, and_false, false_and, if_true, if_false, ne_eq, not_true_eq_false, not_false_eq_true, reduceCtorEq, eq_self, true_or, or_true, or_false, false_or, zbR_some, s1, hL, Int.toNat_natCast]
      rw [zwr_id (by omega) (by omega), if_neg (by omega), if_pos (by omega)]
    · refine ⟨g, ?_⟩
      rw [e255_18]
      simp only [e255_19, e255_20, e255_21, e255_23, e255_24, e255_27, e255_28, e255_29, e255_30, e255_32, e255_999, e255_1000, zU_app, zbI_some, zbV_some, Int.reduceToNat, Int.reduceLE, Int.reduceLT, Int.reduceEq, Nat.reduceEqDiff, and_self, and_true, true_and, and_false, false_and, if_true, if_false, ne_eq, not_true_eq_false, not_false_eq_true, reduceCtorEq, eq_self, true_or, or_true, or_false, false_or, zbR_some, s1, hL]
      rw [zwr_id (by omega) (by omega), if_pos (by omega)]
end LW
