/-! the model's text -/
theorem m_txL1 (d n : Nat) (hn : n ≤ 16) (o : Int) (g : zG) (hl : g 12 0 10 = (n : Int)) : ∀ (m i : Nat) (w : Nat → Int), i + m = n → ∃ w', Ev d 111 112 [some (.inr (12, 0)), some (.inl o), some (.inl (i : Int))] [] (zRw g w) = Ev d 111 186 [some (.inr (12, 0)), some (.inl o), some (.inl 0)] [] (zRw g w') ∧ (∀ k, i ≤ k → k < n → w' (490 + k) = g 49 0 (3 * k) ∧ w' (510 + k) = g 49 0 (3 * k + 1) ∧ w' (530 + k) = g 49 0 (3 * k + 2)) ∧ ∀ x, ¬ ((490 + i ≤ x ∧ x < 506) ∨ (510 + i ≤ x ∧ x < 526) ∨ (530 + i ≤ x ∧ x < 546)) → w' x = w x := by
  intro m
  induction m with
  | zero =>
    intro i w h
    have hl' : zRw g w 12 0 10 = (n : Int) := by rw [zRw_ne (by omega)]; exact hl
    refine ⟨w, ?_, fun k h1 h2 => by omega, fun x _ => rfl⟩
    rw [e111_112]
    simp only [e111_0, e111_1, e111_2, e111_5, e111_6, e111_7, e111_10, e111_11, e111_12, e111_15, e111_16, e111_17, e111_20, e111_21, e111_24, e111_25, e111_27, e111_30, e111_31, e111_34, e111_37, e111_38, e111_41, e111_42, e111_43, e111_44, e111_47, e111_48, e111_51, e111_52, e111_55, e111_56, e111_57, e111_60, e111_63, e111_64, e111_65, e111_68, e111_69, e111_70, e111_73, e111_76, e111_77, e111_78, e111_81, e111_82, e111_85, e111_86, e111_89, e111_92, e111_93, e111_96, e111_97, e111_98, e111_99, e111_102, e111_105, e111_106, e111_109, e111_110, e111_111, e111_113, e111_114, e111_117, e111_120, e111_121, e111_124, e111_127, e111_128, e111_129, e111_130, e111_133, e111_134, e111_135, e111_136, e111_137, e111_138, e111_139, e111_142, e111_145, e111_146, e111_147, e111_148, e111_151, e111_152, e111_153, e111_154, e111_155, e111_156, e111_157, e111_158, e111_159, e111_162, e111_165, e111_166, e111_167, e111_168, e111_171, e111_172, e111_173, e111_174, e111_175, e111_176, e111_177, e111_178, e111_181, e111_184, e111_185, e111_187, e111_188, e111_189, e111_192, e111_193, e111_196, e111_197, e111_200, e111_203, e111_204, e111_205, e111_206, e111_209, e111_210, e111_211, e111_212, e111_215, e111_218, e111_219, e111_222, zU_app, zbI_some, zbV_some, Int.reduceToNat, Int.reduceLE, Int.reduceLT, Int.reduceEq, Nat.reduceEqDiff, and_self, and_true, true_and, and_false, false_and, if_true, if_false, ne_eq, not_true_eq_false, not_false_eq_true, reduceCtorEq, hl']
    rw [if_pos (by omega)]
  | succ m ih =>
    intro i w h
    have hl' : ∀ w, zRw g w 12 0 10 = (n : Int) := fun w => by rw [zRw_ne (by omega)]; exact hl
    have h49 : ∀ w x, zRw g w 49 0 x = g 49 0 x := fun w x => by rw [zRw_ne (by omega)]
    obtain ⟨w', a1, a2, a3⟩ := ih (i + 1) (uW (uW (uW w (490 + i) (g 49 0 (3 * i))) (510 + i) (g 49 0 (3 * i + 1))) (530 + i) (g 49 0 (3 * i + 2))) (by omega)
    refine ⟨w', ?_, ?_, ?_⟩
    · rw [← a1, e111_112]
      simp only [e111_0, e111_1, e111_2, e111_5, e111_6, e111_7, e111_10, e111_11, e111_12, e111_15, e111_16, e111_17, e111_20, e111_21, e111_24, e111_25, e111_27, e111_30, e111_31, e111_34, e111_37, e111_38, e111_41, e111_42, e111_43, e111_44, e111_47, e111_48, e111_51, e111_52, e111_55, e111_56, e111_57, e111_60, e111_63, e111_64, e111_65, e111_68, e111_69, e111_70, e111_73, e111_76, e111_77, e111_78, e111_81, e111_82, e111_85, e111_86, e111_89, e111_92, e111_93, e111_96, e111_97, e111_98, e111_99, e111_102, e111_105, e111_106, e111_109, e111_110, e111_111, e111_113, e111_114, e111_117, e111_120, e111_121, e111_124, e111_127, e111_128, e111_129, e111_130, e111_133, e111_134, e111_135, e111_136, e111_137, e111_138, e111_139, e111_142, e111_145, e111_146, e111_147, e111_148, e111_151, e111_152, e111_153, e111_154, e111_155, e111_156, e111_157, e111_158, e111_159, e111_162, e111_165, e111_166, e111_167, e111_168, e111_171, e111_172, e111_173, e111_174, e111_175, e111_176, e111_177, e111_178, e111_181, e111_184, e111_185, e111_187, e111_188, e111_189, e111_192, e111_193, e111_196, e111_197, e111_200, e111_203, e111_204, e111_205, e111_206, e111_209, e111_210, e111_211, e111_212, e111_215, e111_218, e111_219, e111_222, zU_app, zbI_some, zbV_some, Int.reduceToNat, Int.reduceLE, Int.reduceLT, Int.reduceEq, Nat.reduceEqDiff, and_self, and_true, true_and, and_false, false_and, if_true, if_false, ne_eq, not_true_eq_false, not_false_eq_true, reduceCtorEq, hl', zU_zRw, h49]
      rw [if_neg (by omega), zwr_id (x := 3 * (i : Int)) (by omega) (by omega), zwr_id (x := 3 * (i : Int) + 1) (by omega) (by omega), zwr_id (x := 3 * (i : Int) + 2) (by omega) (by omega), zwr_id (x := 490 + (i : Int)) (by omega) (by omega), zwr_id (x := 510 + (i : Int)) (by omega) (by omega), zwr_id (x := 530 + (i : Int)) (by omega) (by omega), if_pos (by omega), if_pos (by omega), if_pos (by omega), if_pos (by omega), if_pos (by omega), if_pos (by omega), show (3 * (i : Int)).toNat = 3 * i by omega, show (3 * (i : Int) + 1).toNat = 3 * i + 1 by omega, show (3 * (i : Int) + 2).toNat = 3 * i + 2 by omega, show (490 + (i : Int)).toNat = 490 + i by omega, show (510 + (i : Int)).toNat = 510 + i by omega, show (530 + (i : Int)).toNat = 530 + i by omega, zwr_id (by omega) (by omega)]
      rfl
    · intro k h1 h2
      by_cases e : k = i
      · subst e
        refine ⟨?_, ?_, ?_⟩
        · rw [a3 _ (by omega), uW_ne (by omega), uW_ne (by omega), uW_eq]
        · rw [a3 _ (by omega), uW_ne (by omega), uW_eq]
        · rw [a3 _ (by omega), uW_eq]
      · exact a2 k (by omega) h2
    · intro x hx
      rw [a3 x (by omega), uW_ne (by omega), uW_ne (by omega), uW_ne (by omega)]
theorem m_txL2 (d n N : Nat) (hN : N ≤ 400) (o : Int) (g : zG) (hl : g 12 0 10 = (n : Int)) (hs : g 12 0 11 = (N : Int)) : ∀ (m i : Nat) (w : Nat → Int), i + m = 2 * N → ∃ w', Ev d 111 186 [some (.inr (12, 0)), some (.inl o), some (.inl (i : Int))] [] (zRw g w) = some (some (.inl (n : Int)), zRw g w') ∧ ∀ x, w' x = if 550 + i ≤ x ∧ x < 550 + 2 * N then g 50 0 (x - 550) else w x := by
  intro m
  induction m with
  | zero =>
    intro i w h
    have hl' : zRw g w 12 0 10 = (n : Int) := by rw [zRw_ne (by omega)]; exact hl
    have hs' : zRw g w 12 0 11 = (N : Int) := by rw [zRw_ne (by omega)]; exact hs
    refine ⟨w, ?_, fun x => by rw [if_neg (by omega)]⟩
    rw [e111_186]
    simp only [e111_0, e111_1, e111_2, e111_5, e111_6, e111_7, e111_10, e111_11, e111_12, e111_15, e111_16, e111_17, e111_20, e111_21, e111_24, e111_25, e111_27, e111_30, e111_31, e111_34, e111_37, e111_38, e111_41, e111_42, e111_43, e111_44, e111_47, e111_48, e111_51, e111_52, e111_55, e111_56, e111_57, e111_60, e111_63, e111_64, e111_65, e111_68, e111_69, e111_70, e111_73, e111_76, e111_77, e111_78, e111_81, e111_82, e111_85, e111_86, e111_89, e111_92, e111_93, e111_96, e111_97, e111_98, e111_99, e111_102, e111_105, e111_106, e111_109, e111_110, e111_111, e111_113, e111_114, e111_117, e111_120, e111_121, e111_124, e111_127, e111_128, e111_129, e111_130, e111_133, e111_134, e111_135, e111_136, e111_137, e111_138, e111_139, e111_142, e111_145, e111_146, e111_147, e111_148, e111_151, e111_152, e111_153, e111_154, e111_155, e111_156, e111_157, e111_158, e111_159, e111_162, e111_165, e111_166, e111_167, e111_168, e111_171, e111_172, e111_173, e111_174, e111_175, e111_176, e111_177, e111_178, e111_181, e111_184, e111_185, e111_187, e111_188, e111_189, e111_192, e111_193, e111_196, e111_197, e111_200, e111_203, e111_204, e111_205, e111_206, e111_209, e111_210, e111_211, e111_212, e111_215, e111_218, e111_219, e111_222, zU_app, zbI_some, zbV_some, Int.reduceToNat, Int.reduceLE, Int.reduceLT, Int.reduceEq, Nat.reduceEqDiff, and_self, and_true, true_and, and_false, false_and, if_true, if_false, ne_eq, not_true_eq_false, not_false_eq_true, reduceCtorEq, hl', hs']
    rw [zwr_id (by omega) (by omega), if_pos (by omega)]
  | succ m ih =>
    intro i w h
    have hs' : zRw g w 12 0 11 = (N : Int) := by rw [zRw_ne (by omega)]; exact hs
    have h50 : ∀ x, zRw g w 50 0 x = g 50 0 x := fun x => by rw [zRw_ne (by omega)]
    obtain ⟨w', a1, a2⟩ := ih (i + 1) (uW w (550 + i) (g 50 0 i)) (by omega)
    refine ⟨w', ?_, ?_⟩
    · rw [← a1, e111_186]
      simp only [e111_0, e111_1, e111_2, e111_5, e111_6, e111_7, e111_10, e111_11, e111_12, e111_15, e111_16, e111_17, e111_20, e111_21, e111_24, e111_25, e111_27, e111_30, e111_31, e111_34, e111_37, e111_38, e111_41, e111_42, e111_43, e111_44, e111_47, e111_48, e111_51, e111_52, e111_55, e111_56, e111_57, e111_60, e111_63, e111_64, e111_65, e111_68, e111_69, e111_70, e111_73, e111_76, e111_77, e111_78, e111_81, e111_82, e111_85, e111_86, e111_89, e111_92, e111_93, e111_96, e111_97, e111_98, e111_99, e111_102, e111_105, e111_106, e111_109, e111_110, e111_111, e111_113, e111_114, e111_117, e111_120, e111_121, e111_124, e111_127, e111_128, e111_129, e111_130, e111_133, e111_134, e111_135, e111_136, e111_137, e111_138, e111_139, e111_142, e111_145, e111_146, e111_147, e111_148, e111_151, e111_152, e111_153, e111_154, e111_155, e111_156, e111_157, e111_158, e111_159, e111_162, e111_165, e111_166, e111_167, e111_168, e111_171, e111_172, e111_173, e111_174, e111_175, e111_176, e111_177, e111_178, e111_181, e111_184, e111_185, e111_187, e111_188, e111_189, e111_192, e111_193, e111_196, e111_197, e111_200, e111_203, e111_204, e111_205, e111_206, e111_209, e111_210, e111_211, e111_212, e111_215, e111_218, e111_219, e111_222, zU_app, zbI_some, zbV_some, Int.reduceToNat, Int.reduceLE, Int.reduceLT, Int.reduceEq, Nat.reduceEqDiff, and_self, and_true, true_and, and_false, false_and, if_true, if_false, ne_eq, not_true_eq_false, not_false_eq_true, reduceCtorEq, hs', zU_zRw, h50]
      rw [zwr_id (x := 2 * (N : Int)) (by omega) (by omega), if_neg (by omega), zwr_id (x := 550 + (i : Int)) (by omega) (by omega), if_pos (by omega), if_pos (by omega), show (550 + (i : Int)).toNat = 550 + i by omega, Int.toNat_natCast, zwr_id (by omega) (by omega)]
      rfl
    · intro x
      rw [a2 x]
      by_cases e : x = 550 + i
      · subst e
        rw [if_neg (by omega), if_pos (by omega), uW_eq, show 550 + i - 550 = i by omega]
      · rw [uW_ne e]
        by_cases e2 : 550 + (i + 1) ≤ x ∧ x < 550 + 2 * N
        · rw [if_pos e2, if_pos (by omega)]
        · rw [if_neg e2, if_neg (by omega)]
