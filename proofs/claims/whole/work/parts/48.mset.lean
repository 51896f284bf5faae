/-! the model: person, set, change, end, fault -/
def aPerson (w : Nat → Int) (x : Int) : Option (Nat → Int) := if (0 ≤ x ∧ x ≤ 99) ∧ w 17 ≠ 8 then some (uW (uW (uW (uW w (20 + (w 17).toNat) x) (9 + (w 17).toNat) 0) (28 + (w 17).toNat) (w 17)) 17 (w 17 + 1)) else none
/-- what comes of a row that may change -/
def upW (g : zG) (w : Nat → Int) : Option (Nat → Int) → zG
  | none => zRw g w
  | some w' => zU (zRw g w') 12 0 3 0
def isW : Option (Nat → Int) → Int → Int → Int
  | none, _, b => b
  | some _, a, _ => a
theorem m_person (d : Nat) (x : Int) (g : zG) (w : Nat → Int) (h17 : 0 ≤ w 17 ∧ w 17 ≤ 8) : EvM (d + 1) 19 [.inr (12, 0), .inl x] (zRw g w) = some (some (.inl (isW (aPerson w x) (w 17) (-1))), upW g w (aPerson w x)) := by
  rw [en19]
  by_cases h1 : 0 ≤ x ∧ x ≤ 99
  · by_cases h2 : w 17 = 8
    · have e : aPerson w x = none := if_neg (fun q => q.2 h2)
      rw [e]
      simp only [e19_0, e19_1, e19_2, e19_4, e19_7, e19_10, e19_11, e19_14, e19_16, e19_17, e19_19, e19_22, e19_23, e19_24, e19_25, e19_28, e19_30, e19_31, e19_32, e19_33, e19_36, e19_38, e19_39, e19_40, e19_41, e19_42, e19_43, e19_46, e19_48, e19_49, e19_50, e19_51, e19_52, e19_53, e19_56, e19_58, e19_59, e19_60, e19_61, e19_62, e19_63, e19_66, e19_68, e19_69, e19_70, e19_71, e19_72, e19_73, e19_74, e19_77, e19_78, zU_app, zbI_some, zbV_some, Int.reduceToNat, Int.reduceLE, Int.reduceLT, Int.reduceEq, Nat.reduceEqDiff, and_self, and_true, true_and, and_false, false_and, if_true, if_false, ne_eq, not_true_eq_false, not_false_eq_true, reduceCtorEq, m_isIn, zb_t h1, zRw_at, h2]
      rfl
    · have e : aPerson w x = some _ := if_pos ⟨h1, h2⟩
      rw [e]
      obtain ⟨n, hn⟩ : ∃ n : Nat, w 17 = (n : Int) := ⟨(w 17).toNat, by omega⟩
      rw [hn] at h17 h2 ⊢
      simp only [e19_0, e19_1, e19_2, e19_4, e19_7, e19_10, e19_11, e19_14, e19_16, e19_17, e19_19, e19_22, e19_23, e19_24, e19_25, e19_28, e19_30, e19_31, e19_32, e19_33, e19_36, e19_38, e19_39, e19_40, e19_41, e19_42, e19_43, e19_46, e19_48, e19_49, e19_50, e19_51, e19_52, e19_53, e19_56, e19_58, e19_59, e19_60, e19_61, e19_62, e19_63, e19_66, e19_68, e19_69, e19_70, e19_71, e19_72, e19_73, e19_74, e19_77, e19_78, zU_app, zbI_some, zbV_some, Int.reduceToNat, Int.reduceLE, Int.reduceLT, Int.reduceEq, Nat.reduceEqDiff, and_self, and_true, true_and, and_false, false_and, if_true, if_false, ne_eq, not_true_eq_false, not_false_eq_true, reduceCtorEq, m_isIn, zb_t h1, zRw_at, hn, zU_zRw]
      rw [if_pos h2, zwr_id (x := 20 + (n : Int)) (by omega) (by omega), zwr_id (x := 9 + (n : Int)) (by omega) (by omega), zwr_id (x := 28 + (n : Int)) (by omega) (by omega), if_pos (by omega), if_pos (by omega), if_pos (by omega), show (20 + (n : Int)).toNat = 20 + n by omega, show (9 + (n : Int)).toNat = 9 + n by omega, show (28 + (n : Int)).toNat = 28 + n by omega, if_neg (show ¬ (17 : Nat) = 28 + n by omega), if_neg (show ¬ (17 : Nat) = 9 + n by omega), if_neg (show ¬ (17 : Nat) = 20 + n by omega), zwr_id (by omega) (by omega), m_forgets, zbV_some, Int.toNat_natCast]
      rfl
  · have e : aPerson w x = none := if_neg (fun q => h1 q.1)
    rw [e]
    simp only [e19_0, e19_1, e19_2, e19_4, e19_7, e19_10, e19_11, e19_14, e19_16, e19_17, e19_19, e19_22, e19_23, e19_24, e19_25, e19_28, e19_30, e19_31, e19_32, e19_33, e19_36, e19_38, e19_39, e19_40, e19_41, e19_42, e19_43, e19_46, e19_48, e19_49, e19_50, e19_51, e19_52, e19_53, e19_56, e19_58, e19_59, e19_60, e19_61, e19_62, e19_63, e19_66, e19_68, e19_69, e19_70, e19_71, e19_72, e19_73, e19_74, e19_77, e19_78, zU_app, zbI_some, zbV_some, Int.reduceToNat, Int.reduceLE, Int.reduceLT, Int.reduceEq, Nat.reduceEqDiff, and_self, and_true, true_and, and_false, false_and, if_true, if_false, ne_eq, not_true_eq_false, not_false_eq_true, reduceCtorEq, m_isIn, zb_f h1]
    rfl
def aSet (w : Nat → Int) (x y v : Int) : Option (Nat → Int) :=
  if x = 0 ∧ 0 ≤ v ∧ v ≤ 99 then some (uW w 19 v)
  else if x = 1 ∧ (0 ≤ y ∧ y < w 18) ∧ 0 ≤ v ∧ v ≤ 1 then some (uW w (40 + 4 * y.toNat + 3) v)
  else if x = 2 ∧ (0 ≤ y ∧ y < w 17) ∧ 0 ≤ v ∧ v ≤ 99 then some (uW w (20 + y.toNat) v)
  else if x = 3 ∧ (0 ≤ y ∧ y < w 17) ∧ 0 ≤ v ∧ v ≤ 9999 then some (uW w (9 + y.toNat) v)
  else if x = 4 ∧ 1 ≤ v ∧ v ≤ 9999 then some (uW w 0 v)
  else if x = 5 ∧ 0 ≤ v ∧ v < w 17 then some (uW w 1 v)
  else none
theorem m_set0 (d : Nat) (y v : Int) (g : zG) (w : Nat → Int) (h17 : 0 ≤ w 17 ∧ w 17 ≤ 8) (h18 : 0 ≤ w 18 ∧ w 18 ≤ 6) : EvM (d + 2) 39 [.inr (12, 0), .inl 0, .inl y, .inl v] (zRw g w) = some (some (.inl (isW (aSet w 0 y v) 1 0)), upW g w (aSet w 0 y v)) := by
  have iP := fun p => m_isPerson d p (zRw g w) (by rw [zRw_at]; omega)
  have iR := fun p => m_isRule d p (zRw g w) (by rw [zRw_at]; omega)
  simp only [zRw_at] at iP iR
  rw [en39]
  by_cases hv : 0 ≤ v ∧ v ≤ 99
  · have e : aSet w 0 y v = some (uW w 19 v) := by unfold aSet; simp [hv]
    rw [e]
    simp only [e39_0, e39_1, e39_4, e39_5, e39_6, e39_8, e39_11, e39_14, e39_15, e39_18, e39_20, e39_21, e39_22, e39_25, e39_26, e39_27, e39_30, e39_31, e39_32, e39_35, e39_38, e39_39, e39_40, e39_41, e39_44, e39_47, e39_48, e39_49, e39_50, e39_51, e39_54, e39_57, e39_58, e39_59, e39_62, e39_63, e39_64, e39_67, e39_70, e39_71, e39_72, e39_74, e39_77, e39_80, e39_81, e39_84, e39_86, e39_87, e39_88, e39_89, e39_90, e39_93, e39_94, e39_95, e39_98, e39_99, e39_100, e39_103, e39_106, e39_107, e39_108, e39_111, e39_114, e39_117, e39_118, e39_121, e39_123, e39_124, e39_125, e39_126, e39_127, e39_130, e39_131, e39_132, e39_135, e39_136, e39_137, e39_140, e39_143, e39_146, e39_147, e39_150, e39_151, e39_152, e39_153, e39_156, e39_157, e39_158, e39_161, e39_162, e39_163, e39_166, e39_169, e39_170, e39_173, e39_174, e39_175, e39_176, e39_179, e39_180, e39_181, e39_182, e39_185, e39_186, zU_app, zbI_some, zbV_some, Int.reduceToNat, Int.reduceLE, Int.reduceLT, Int.reduceEq, Nat.reduceEqDiff, and_self, and_true, true_and, and_false, false_and, if_true, if_false, ne_eq, not_true_eq_false, not_false_eq_true, reduceCtorEq, m_isIn, zb_t hv, iP, zU_zRw, m_forgets]
    rfl
  · have e : aSet w 0 y v = none := by unfold aSet; simp; omega
    rw [e]
    simp only [e39_0, e39_1, e39_4, e39_5, e39_6, e39_8, e39_11, e39_14, e39_15, e39_18, e39_20, e39_21, e39_22, e39_25, e39_26, e39_27, e39_30, e39_31, e39_32, e39_35, e39_38, e39_39, e39_40, e39_41, e39_44, e39_47, e39_48, e39_49, e39_50, e39_51, e39_54, e39_57, e39_58, e39_59, e39_62, e39_63, e39_64, e39_67, e39_70, e39_71, e39_72, e39_74, e39_77, e39_80, e39_81, e39_84, e39_86, e39_87, e39_88, e39_89, e39_90, e39_93, e39_94, e39_95, e39_98, e39_99, e39_100, e39_103, e39_106, e39_107, e39_108, e39_111, e39_114, e39_117, e39_118, e39_121, e39_123, e39_124, e39_125, e39_126, e39_127, e39_130, e39_131, e39_132, e39_135, e39_136, e39_137, e39_140, e39_143, e39_146, e39_147, e39_150, e39_151, e39_152, e39_153, e39_156, e39_157, e39_158, e39_161, e39_162, e39_163, e39_166, e39_169, e39_170, e39_173, e39_174, e39_175, e39_176, e39_179, e39_180, e39_181, e39_182, e39_185, e39_186, zU_app, zbI_some, zbV_some, Int.reduceToNat, Int.reduceLE, Int.reduceLT, Int.reduceEq, Nat.reduceEqDiff, and_self, and_true, true_and, and_false, false_and, if_true, if_false, ne_eq, not_true_eq_false, not_false_eq_true, reduceCtorEq, m_isIn, zb_f hv, iP]
    rfl
theorem m_set1 (d : Nat) (y v : Int) (g : zG) (w : Nat → Int) (h17 : 0 ≤ w 17 ∧ w 17 ≤ 8) (h18 : 0 ≤ w 18 ∧ w 18 ≤ 6) : EvM (d + 2) 39 [.inr (12, 0), .inl 1, .inl y, .inl v] (zRw g w) = some (some (.inl (isW (aSet w 1 y v) 1 0)), upW g w (aSet w 1 y v)) := by
  have iP := fun p => m_isPerson d p (zRw g w) (by rw [zRw_at]; omega)
  have iR := fun p => m_isRule d p (zRw g w) (by rw [zRw_at]; omega)
  simp only [zRw_at] at iP iR
  rw [en39]
  by_cases hv : 0 ≤ v ∧ v ≤ 1
  · by_cases hy : 0 ≤ y ∧ y < w 18
    · obtain ⟨k, hk⟩ : ∃ k : Nat, y = (k : Int) := ⟨y.toNat, by omega⟩
      subst hk
      have e : aSet w 1 (k : Int) v = some (uW w (40 + 4 * k + 3) v) := by unfold aSet; simp [hv]; omega
      rw [e]
      have mg := m_gives (d + 1) k 3 v (zRw g w) (by omega)
      simp only [e39_0, e39_1, e39_4, e39_5, e39_6, e39_8, e39_11, e39_14, e39_15, e39_18, e39_20, e39_21, e39_22, e39_25, e39_26, e39_27, e39_30, e39_31, e39_32, e39_35, e39_38, e39_39, e39_40, e39_41, e39_44, e39_47, e39_48, e39_49, e39_50, e39_51, e39_54, e39_57, e39_58, e39_59, e39_62, e39_63, e39_64, e39_67, e39_70, e39_71, e39_72, e39_74, e39_77, e39_80, e39_81, e39_84, e39_86, e39_87, e39_88, e39_89, e39_90, e39_93, e39_94, e39_95, e39_98, e39_99, e39_100, e39_103, e39_106, e39_107, e39_108, e39_111, e39_114, e39_117, e39_118, e39_121, e39_123, e39_124, e39_125, e39_126, e39_127, e39_130, e39_131, e39_132, e39_135, e39_136, e39_137, e39_140, e39_143, e39_146, e39_147, e39_150, e39_151, e39_152, e39_153, e39_156, e39_157, e39_158, e39_161, e39_162, e39_163, e39_166, e39_169, e39_170, e39_173, e39_174, e39_175, e39_176, e39_179, e39_180, e39_181, e39_182, e39_185, e39_186, zU_app, zbI_some, zbV_some, Int.reduceToNat, Int.reduceLE, Int.reduceLT, Int.reduceEq, Nat.reduceEqDiff, and_self, and_true, true_and, and_false, false_and, if_true, if_false, ne_eq, not_true_eq_false, not_false_eq_true, reduceCtorEq, m_isIn, zb_t hv, zb_t hy, iP, iR, zU_zRw, m_forgets]
      rw [show EvM (d + 1) 27 [.inr (12, 0), .inl (k : Int), .inl 3, .inl v] (zRw g w) = _ from mg, zbV_some, zU_zRw]
      rfl
    · have e : aSet w 1 y v = none := by unfold aSet; simp; omega
      rw [e]
      simp only [e39_0, e39_1, e39_4, e39_5, e39_6, e39_8, e39_11, e39_14, e39_15, e39_18, e39_20, e39_21, e39_22, e39_25, e39_26, e39_27, e39_30, e39_31, e39_32, e39_35, e39_38, e39_39, e39_40, e39_41, e39_44, e39_47, e39_48, e39_49, e39_50, e39_51, e39_54, e39_57, e39_58, e39_59, e39_62, e39_63, e39_64, e39_67, e39_70, e39_71, e39_72, e39_74, e39_77, e39_80, e39_81, e39_84, e39_86, e39_87, e39_88, e39_89, e39_90, e39_93, e39_94, e39_95, e39_98, e39_99, e39_100, e39_103, e39_106, e39_107, e39_108, e39_111, e39_114, e39_117, e39_118, e39_121, e39_123, e39_124, e39_125, e39_126, e39_127, e39_130, e39_131, e39_132, e39_135, e39_136, e39_137, e39_140, e39_143, e39_146, e39_147, e39_150, e39_151, e39_152, e39_153, e39_156, e39_157, e39_158, e39_161, e39_162, e39_163, e39_166, e39_169, e39_170, e39_173, e39_174, e39_175, e39_176, e39_179, e39_180, e39_181, e39_182, e39_185, e39_186, zU_app, zbI_some, zbV_some, Int.reduceToNat, Int.reduceLE, Int.reduceLT, Int.reduceEq, Nat.reduceEqDiff, and_self, and_true, true_and, and_false, false_and, if_true, if_false, ne_eq, not_true_eq_false, not_false_eq_true, reduceCtorEq, m_isIn, zb_t hv, zb_f hy, iP, iR]
      rfl
  · have e : aSet w 1 y v = none := by unfold aSet; simp; omega
    rw [e]
    by_cases hy : 0 ≤ y ∧ y < w 18
    · simp only [e39_0, e39_1, e39_4, e39_5, e39_6, e39_8, e39_11, e39_14, e39_15, e39_18, e39_20, e39_21, e39_22, e39_25, e39_26, e39_27, e39_30, e39_31, e39_32, e39_35, e39_38, e39_39, e39_40, e39_41, e39_44, e39_47, e39_48, e39_49, e39_50, e39_51, e39_54, e39_57, e39_58, e39_59, e39_62, e39_63, e39_64, e39_67, e39_70, e39_71, e39_72, e39_74, e39_77, e39_80, e39_81, e39_84, e39_86, e39_87, e39_88, e39_89, e39_90, e39_93, e39_94, e39_95, e39_98, e39_99, e39_100, e39_103, e39_106, e39_107, e39_108, e39_111, e39_114, e39_117, e39_118, e39_121, e39_123, e39_124, e39_125, e39_126, e39_127, e39_130, e39_131, e39_132, e39_135, e39_136, e39_137, e39_140, e39_143, e39_146, e39_147, e39_150, e39_151, e39_152, e39_153, e39_156, e39_157, e39_158, e39_161, e39_162, e39_163, e39_166, e39_169, e39_170, e39_173, e39_174, e39_175, e39_176, e39_179, e39_180, e39_181, e39_182, e39_185, e39_186, zU_app, zbI_some, zbV_some, Int.reduceToNat, Int.reduceLE, Int.reduceLT, Int.reduceEq, Nat.reduceEqDiff, and_self, and_true, true_and, and_false, false_and, if_true, if_false, ne_eq, not_true_eq_false, not_false_eq_true, reduceCtorEq, m_isIn, zb_f hv, zb_t hy, iP, iR]
      rfl
    · simp only [e39_0, e39_1, e39_4, e39_5, e39_6, e39_8, e39_11, e39_14, e39_15, e39_18, e39_20, e39_21, e39_22, e39_25, e39_26, e39_27, e39_30, e39_31, e39_32, e39_35, e39_38, e39_39, e39_40, e39_41, e39_44, e39_47, e39_48, e39_49, e39_50, e39_51, e39_54, e39_57, e39_58, e39_59, e39_62, e39_63, e39_64, e39_67, e39_70, e39_71, e39_72, e39_74, e39_77, e39_80, e39_81, e39_84, e39_86, e39_87, e39_88, e39_89, e39_90, e39_93, e39_94, e39_95, e39_98, e39_99, e39_100, e39_103, e39_106, e39_107, e39_108, e39_111, e39_114, e39_117, e39_118, e39_121, e39_123, e39_124, e39_125, e39_126, e39_127, e39_130, e39_131, e39_132, e39_135, e39_136, e39_137, e39_140, e39_143, e39_146, e39_147, e39_150, e39_151, e39_152, e39_153, e39_156, e39_157, e39_158, e39_161, e39_162, e39_163, e39_166, e39_169, e39_170, e39_173, e39_174, e39_175, e39_176, e39_179, e39_180, e39_181, e39_182, e39_185, e39_186, zU_app, zbI_some, zbV_some, Int.reduceToNat, Int.reduceLE, Int.reduceLT, Int.reduceEq, Nat.reduceEqDiff, and_self, and_true, true_and, and_false, false_and, if_true, if_false, ne_eq, not_true_eq_false, not_false_eq_true, reduceCtorEq, m_isIn, zb_f hv, zb_f hy, iP, iR]
      rfl
theorem m_set2 (d : Nat) (y v : Int) (g : zG) (w : Nat → Int) (h17 : 0 ≤ w 17 ∧ w 17 ≤ 8) (h18 : 0 ≤ w 18 ∧ w 18 ≤ 6) : EvM (d + 2) 39 [.inr (12, 0), .inl 2, .inl y, .inl v] (zRw g w) = some (some (.inl (isW (aSet w 2 y v) 1 0)), upW g w (aSet w 2 y v)) := by
  have iP := fun p => m_isPerson d p (zRw g w) (by rw [zRw_at]; omega)
  have iR := fun p => m_isRule d p (zRw g w) (by rw [zRw_at]; omega)
  simp only [zRw_at] at iP iR
  rw [en39]
  by_cases hv : 0 ≤ v ∧ v ≤ 99
  · by_cases hy : 0 ≤ y ∧ y < w 17
    · obtain ⟨k, hk⟩ : ∃ k : Nat, y = (k : Int) := ⟨y.toNat, by omega⟩
      subst hk
      have e : aSet w 2 (k : Int) v = some (uW w (20 + k) v) := by unfold aSet; simp [hv]; omega
      rw [e]
      simp only [e39_0, e39_1, e39_4, e39_5, e39_6, e39_8, e39_11, e39_14, e39_15, e39_18, e39_20, e39_21, e39_22, e39_25, e39_26, e39_27, e39_30, e39_31, e39_32, e39_35, e39_38, e39_39, e39_40, e39_41, e39_44, e39_47, e39_48, e39_49, e39_50, e39_51, e39_54, e39_57, e39_58, e39_59, e39_62, e39_63, e39_64, e39_67, e39_70, e39_71, e39_72, e39_74, e39_77, e39_80, e39_81, e39_84, e39_86, e39_87, e39_88, e39_89, e39_90, e39_93, e39_94, e39_95, e39_98, e39_99, e39_100, e39_103, e39_106, e39_107, e39_108, e39_111, e39_114, e39_117, e39_118, e39_121, e39_123, e39_124, e39_125, e39_126, e39_127, e39_130, e39_131, e39_132, e39_135, e39_136, e39_137, e39_140, e39_143, e39_146, e39_147, e39_150, e39_151, e39_152, e39_153, e39_156, e39_157, e39_158, e39_161, e39_162, e39_163, e39_166, e39_169, e39_170, e39_173, e39_174, e39_175, e39_176, e39_179, e39_180, e39_181, e39_182, e39_185, e39_186, zU_app, zbI_some, zbV_some, Int.reduceToNat, Int.reduceLE, Int.reduceLT, Int.reduceEq, Nat.reduceEqDiff, and_self, and_true, true_and, and_false, false_and, if_true, if_false, ne_eq, not_true_eq_false, not_false_eq_true, reduceCtorEq, m_isIn, zb_t hv, zb_t hy, iP, iR, zU_zRw, m_forgets]
      rw [zwr_id (by omega) (by omega), if_pos (by omega), show (20 + (k : Int)).toNat = 20 + k by omega]
      rfl
    · have e : aSet w 2 y v = none := by unfold aSet; simp; omega
      rw [e]
      simp only [e39_0, e39_1, e39_4, e39_5, e39_6, e39_8, e39_11, e39_14, e39_15, e39_18, e39_20, e39_21, e39_22, e39_25, e39_26, e39_27, e39_30, e39_31, e39_32, e39_35, e39_38, e39_39, e39_40, e39_41, e39_44, e39_47, e39_48, e39_49, e39_50, e39_51, e39_54, e39_57, e39_58, e39_59, e39_62, e39_63, e39_64, e39_67, e39_70, e39_71, e39_72, e39_74, e39_77, e39_80, e39_81, e39_84, e39_86, e39_87, e39_88, e39_89, e39_90, e39_93, e39_94, e39_95, e39_98, e39_99, e39_100, e39_103, e39_106, e39_107, e39_108, e39_111, e39_114, e39_117, e39_118, e39_121, e39_123, e39_124, e39_125, e39_126, e39_127, e39_130, e39_131, e39_132, e39_135, e39_136, e39_137, e39_140, e39_143, e39_146, e39_147, e39_150, e39_151, e39_152, e39_153, e39_156, e39_157, e39_158, e39_161, e39_162, e39_163, e39_166, e39_169, e39_170, e39_173, e39_174, e39_175, e39_176, e39_179, e39_180, e39_181, e39_182, e39_185, e39_186, zU_app, zbI_some, zbV_some, Int.reduceToNat, Int.reduceLE, Int.reduceLT, Int.reduceEq, Nat.reduceEqDiff, and_self, and_true, true_and, and_false, false_and, if_true, if_false, ne_eq, not_true_eq_false, not_false_eq_true, reduceCtorEq, m_isIn, zb_t hv, zb_f hy, iP, iR]
      rfl
  · have e : aSet w 2 y v = none := by unfold aSet; simp; omega
    rw [e]
    by_cases hy : 0 ≤ y ∧ y < w 17
    · simp only [e39_0, e39_1, e39_4, e39_5, e39_6, e39_8, e39_11, e39_14, e39_15, e39_18, e39_20, e39_21, e39_22, e39_25, e39_26, e39_27, e39_30, e39_31, e39_32, e39_35, e39_38, e39_39, e39_40, e39_41, e39_44, e39_47, e39_48, e39_49, e39_50, e39_51, e39_54, e39_57, e39_58, e39_59, e39_62, e39_63, e39_64, e39_67, e39_70, e39_71, e39_72, e39_74, e39_77, e39_80, e39_81, e39_84, e39_86, e39_87, e39_88, e39_89, e39_90, e39_93, e39_94, e39_95, e39_98, e39_99, e39_100, e39_103, e39_106, e39_107, e39_108, e39_111, e39_114, e39_117, e39_118, e39_121, e39_123, e39_124, e39_125, e39_126, e39_127, e39_130, e39_131, e39_132, e39_135, e39_136, e39_137, e39_140, e39_143, e39_146, e39_147, e39_150, e39_151, e39_152, e39_153, e39_156, e39_157, e39_158, e39_161, e39_162, e39_163, e39_166, e39_169, e39_170, e39_173, e39_174, e39_175, e39_176, e39_179, e39_180, e39_181, e39_182, e39_185, e39_186, zU_app, zbI_some, zbV_some, Int.reduceToNat, Int.reduceLE, Int.reduceLT, Int.reduceEq, Nat.reduceEqDiff, and_self, and_true, true_and, and_false, false_and, if_true, if_false, ne_eq, not_true_eq_false, not_false_eq_true, reduceCtorEq, m_isIn, zb_f hv, zb_t hy, iP, iR]
      rfl
    · simp only [e39_0, e39_1, e39_4, e39_5, e39_6, e39_8, e39_11, e39_14, e39_15, e39_18, e39_20, e39_21, e39_22, e39_25, e39_26, e39_27, e39_30, e39_31, e39_32, e39_35, e39_38, e39_39, e39_40, e39_41, e39_44, e39_47, e39_48, e39_49, e39_50, e39_51, e39_54, e39_57, e39_58, e39_59, e39_62, e39_63, e39_64, e39_67, e39_70, e39_71, e39_72, e39_74, e39_77, e39_80, e39_81, e39_84, e39_86, e39_87, e39_88, e39_89, e39_90, e39_93, e39_94, e39_95, e39_98, e39_99, e39_100, e39_103, e39_106, e39_107, e39_108, e39_111, e39_114, e39_117, e39_118, e39_121, e39_123, e39_124, e39_125, e39_126, e39_127, e39_130, e39_131, e39_132, e39_135, e39_136, e39_137, e39_140, e39_143, e39_146, e39_147, e39_150, e39_151, e39_152, e39_153, e39_156, e39_157, e39_158, e39_161, e39_162, e39_163, e39_166, e39_169, e39_170, e39_173, e39_174, e39_175, e39_176, e39_179, e39_180, e39_181, e39_182, e39_185, e39_186, zU_app, zbI_some, zbV_some, Int.reduceToNat, Int.reduceLE, Int.reduceLT, Int.reduceEq, Nat.reduceEqDiff, and_self, and_true, true_and, and_false, false_and, if_true, if_false, ne_eq, not_true_eq_false, not_false_eq_true, reduceCtorEq, m_isIn, zb_f hv, zb_f hy, iP, iR]
      rfl
theorem m_set3 (d : Nat) (y v : Int) (g : zG) (w : Nat → Int) (h17 : 0 ≤ w 17 ∧ w 17 ≤ 8) (h18 : 0 ≤ w 18 ∧ w 18 ≤ 6) : EvM (d + 2) 39 [.inr (12, 0), .inl 3, .inl y, .inl v] (zRw g w) = some (some (.inl (isW (aSet w 3 y v) 1 0)), upW g w (aSet w 3 y v)) := by
  have iP := fun p => m_isPerson d p (zRw g w) (by rw [zRw_at]; omega)
  have iR := fun p => m_isRule d p (zRw g w) (by rw [zRw_at]; omega)
  simp only [zRw_at] at iP iR
  rw [en39]
  by_cases hv : 0 ≤ v ∧ v ≤ 9999
  · by_cases hy : 0 ≤ y ∧ y < w 17
    · obtain ⟨k, hk⟩ : ∃ k : Nat, y = (k : Int) := ⟨y.toNat, by omega⟩
      subst hk
      have e : aSet w 3 (k : Int) v = some (uW w (9 + k) v) := by unfold aSet; simp [hv]; omega
      rw [e]
      simp only [e39_0, e39_1, e39_4, e39_5, e39_6, e39_8, e39_11, e39_14, e39_15, e39_18, e39_20, e39_21, e39_22, e39_25, e39_26, e39_27, e39_30, e39_31, e39_32, e39_35, e39_38, e39_39, e39_40, e39_41, e39_44, e39_47, e39_48, e39_49, e39_50, e39_51, e39_54, e39_57, e39_58, e39_59, e39_62, e39_63, e39_64, e39_67, e39_70, e39_71, e39_72, e39_74, e39_77, e39_80, e39_81, e39_84, e39_86, e39_87, e39_88, e39_89, e39_90, e39_93, e39_94, e39_95, e39_98, e39_99, e39_100, e39_103, e39_106, e39_107, e39_108, e39_111, e39_114, e39_117, e39_118, e39_121, e39_123, e39_124, e39_125, e39_126, e39_127, e39_130, e39_131, e39_132, e39_135, e39_136, e39_137, e39_140, e39_143, e39_146, e39_147, e39_150, e39_151, e39_152, e39_153, e39_156, e39_157, e39_158, e39_161, e39_162, e39_163, e39_166, e39_169, e39_170, e39_173, e39_174, e39_175, e39_176, e39_179, e39_180, e39_181, e39_182, e39_185, e39_186, zU_app, zbI_some, zbV_some, Int.reduceToNat, Int.reduceLE, Int.reduceLT, Int.reduceEq, Nat.reduceEqDiff, and_self, and_true, true_and, and_false, false_and, if_true, if_false, ne_eq, not_true_eq_false, not_false_eq_true, reduceCtorEq, m_isIn, zb_t hv, zb_t hy, iP, iR, zU_zRw, m_forgets]
      rw [zwr_id (by omega) (by omega), if_pos (by omega), show (9 + (k : Int)).toNat = 9 + k by omega]
      rfl
    · have e : aSet w 3 y v = none := by unfold aSet; simp; omega
      rw [e]
      simp only [e39_0, e39_1, e39_4, e39_5, e39_6, e39_8, e39_11, e39_14, e39_15, e39_18, e39_20, e39_21, e39_22, e39_25, e39_26, e39_27, e39_30, e39_31, e39_32, e39_35, e39_38, e39_39, e39_40, e39_41, e39_44, e39_47, e39_48, e39_49, e39_50, e39_51, e39_54, e39_57, e39_58, e39_59, e39_62, e39_63, e39_64, e39_67, e39_70, e39_71, e39_72, e39_74, e39_77, e39_80, e39_81, e39_84, e39_86, e39_87, e39_88, e39_89, e39_90, e39_93, e39_94, e39_95, e39_98, e39_99, e39_100, e39_103, e39_106, e39_107, e39_108, e39_111, e39_114, e39_117, e39_118, e39_121, e39_123, e39_124, e39_125, e39_126, e39_127, e39_130, e39_131, e39_132, e39_135, e39_136, e39_137, e39_140, e39_143, e39_146, e39_147, e39_150, e39_151, e39_152, e39_153, e39_156, e39_157, e39_158, e39_161, e39_162, e39_163, e39_166, e39_169, e39_170, e39_173, e39_174, e39_175, e39_176, e39_179, e39_180, e39_181, e39_182, e39_185, e39_186, zU_app, zbI_some, zbV_some, Int.reduceToNat, Int.reduceLE, Int.reduceLT, Int.reduceEq, Nat.reduceEqDiff, and_self, and_true, true_and, and_false, false_and, if_true, if_false, ne_eq, not_true_eq_false, not_false_eq_true, reduceCtorEq, m_isIn, zb_t hv, zb_f hy, iP, iR]
      rfl
  · have e : aSet w 3 y v = none := by unfold aSet; simp; omega
    rw [e]
    by_cases hy : 0 ≤ y ∧ y < w 17
    · simp only [e39_0, e39_1, e39_4, e39_5, e39_6, e39_8, e39_11, e39_14, e39_15, e39_18, e39_20, e39_21, e39_22, e39_25, e39_26, e39_27, e39_30, e39_31, e39_32, e39_35, e39_38, e39_39, e39_40, e39_41, e39_44, e39_47, e39_48, e39_49, e39_50, e39_51, e39_54, e39_57, e39_58, e39_59, e39_62, e39_63, e39_64, e39_67, e39_70, e39_71, e39_72, e39_74, e39_77, e39_80, e39_81, e39_84, e39_86, e39_87, e39_88, e39_89, e39_90, e39_93, e39_94, e39_95, e39_98, e39_99, e39_100, e39_103, e39_106, e39_107, e39_108, e39_111, e39_114, e39_117, e39_118, e39_121, e39_123, e39_124, e39_125, e39_126, e39_127, e39_130, e39_131, e39_132, e39_135, e39_136, e39_137, e39_140, e39_143, e39_146, e39_147, e39_150, e39_151, e39_152, e39_153, e39_156, e39_157, e39_158, e39_161, e39_162, e39_163, e39_166, e39_169, e39_170, e39_173, e39_174, e39_175, e39_176, e39_179, e39_180, e39_181, e39_182, e39_185, e39_186, zU_app, zbI_some, zbV_some, Int.reduceToNat, Int.reduceLE, Int.reduceLT, Int.reduceEq, Nat.reduceEqDiff, and_self, and_true, true_and, and_false, false_and, if_true, if_false, ne_eq, not_true_eq_false, not_false_eq_true, reduceCtorEq, m_isIn, zb_f hv, zb_t hy, iP, iR]
      rfl
    · simp only [e39_0, e39_1, e39_4, e39_5, e39_6, e39_8, e39_11, e39_14, e39_15, e39_18, e39_20, e39_21, e39_22, e39_25, e39_26, e39_27, e39_30, e39_31, e39_32, e39_35, e39_38, e39_39, e39_40, e39_41, e39_44, e39_47, e39_48, e39_49, e39_50, e39_51, e39_54, e39_57, e39_58, e39_59, e39_62, e39_63, e39_64, e39_67, e39_70, e39_71, e39_72, e39_74, e39_77, e39_80, e39_81, e39_84, e39_86, e39_87, e39_88, e39_89, e39_90, e39_93, e39_94, e39_95, e39_98, e39_99, e39_100, e39_103, e39_106, e39_107, e39_108, e39_111, e39_114, e39_117, e39_118, e39_121, e39_123, e39_124, e39_125, e39_126, e39_127, e39_130, e39_131, e39_132, e39_135, e39_136, e39_137, e39_140, e39_143, e39_146, e39_147, e39_150, e39_151, e39_152, e39_153, e39_156, e39_157, e39_158, e39_161, e39_162, e39_163, e39_166, e39_169, e39_170, e39_173, e39_174, e39_175, e39_176, e39_179, e39_180, e39_181, e39_182, e39_185, e39_186, zU_app, zbI_some, zbV_some, Int.reduceToNat, Int.reduceLE, Int.reduceLT, Int.reduceEq, Nat.reduceEqDiff, and_self, and_true, true_and, and_false, false_and, if_true, if_false, ne_eq, not_true_eq_false, not_false_eq_true, reduceCtorEq, m_isIn, zb_f hv, zb_f hy, iP, iR]
      rfl
theorem m_set4 (d : Nat) (y v : Int) (g : zG) (w : Nat → Int) (h17 : 0 ≤ w 17 ∧ w 17 ≤ 8) (h18 : 0 ≤ w 18 ∧ w 18 ≤ 6) : EvM (d + 2) 39 [.inr (12, 0), .inl 4, .inl y, .inl v] (zRw g w) = some (some (.inl (isW (aSet w 4 y v) 1 0)), upW g w (aSet w 4 y v)) := by
  have iP := fun p => m_isPerson d p (zRw g w) (by rw [zRw_at]; omega)
  have iR := fun p => m_isRule d p (zRw g w) (by rw [zRw_at]; omega)
  simp only [zRw_at] at iP iR
  rw [en39]
  by_cases hv : 1 ≤ v ∧ v ≤ 9999
  · have e : aSet w 4 y v = some (uW w 0 v) := by unfold aSet; simp [hv]
    rw [e]
    simp only [e39_0, e39_1, e39_4, e39_5, e39_6, e39_8, e39_11, e39_14, e39_15, e39_18, e39_20, e39_21, e39_22, e39_25, e39_26, e39_27, e39_30, e39_31, e39_32, e39_35, e39_38, e39_39, e39_40, e39_41, e39_44, e39_47, e39_48, e39_49, e39_50, e39_51, e39_54, e39_57, e39_58, e39_59, e39_62, e39_63, e39_64, e39_67, e39_70, e39_71, e39_72, e39_74, e39_77, e39_80, e39_81, e39_84, e39_86, e39_87, e39_88, e39_89, e39_90, e39_93, e39_94, e39_95, e39_98, e39_99, e39_100, e39_103, e39_106, e39_107, e39_108, e39_111, e39_114, e39_117, e39_118, e39_121, e39_123, e39_124, e39_125, e39_126, e39_127, e39_130, e39_131, e39_132, e39_135, e39_136, e39_137, e39_140, e39_143, e39_146, e39_147, e39_150, e39_151, e39_152, e39_153, e39_156, e39_157, e39_158, e39_161, e39_162, e39_163, e39_166, e39_169, e39_170, e39_173, e39_174, e39_175, e39_176, e39_179, e39_180, e39_181, e39_182, e39_185, e39_186, zU_app, zbI_some, zbV_some, Int.reduceToNat, Int.reduceLE, Int.reduceLT, Int.reduceEq, Nat.reduceEqDiff, and_self, and_true, true_and, and_false, false_and, if_true, if_false, ne_eq, not_true_eq_false, not_false_eq_true, reduceCtorEq, m_isIn, zb_t hv, iP, zU_zRw, m_forgets]
    rfl
  · have e : aSet w 4 y v = none := by unfold aSet; simp; omega
    rw [e]
    simp only [e39_0, e39_1, e39_4, e39_5, e39_6, e39_8, e39_11, e39_14, e39_15, e39_18, e39_20, e39_21, e39_22, e39_25, e39_26, e39_27, e39_30, e39_31, e39_32, e39_35, e39_38, e39_39, e39_40, e39_41, e39_44, e39_47, e39_48, e39_49, e39_50, e39_51, e39_54, e39_57, e39_58, e39_59, e39_62, e39_63, e39_64, e39_67, e39_70, e39_71, e39_72, e39_74, e39_77, e39_80, e39_81, e39_84, e39_86, e39_87, e39_88, e39_89, e39_90, e39_93, e39_94, e39_95, e39_98, e39_99, e39_100, e39_103, e39_106, e39_107, e39_108, e39_111, e39_114, e39_117, e39_118, e39_121, e39_123, e39_124, e39_125, e39_126, e39_127, e39_130, e39_131, e39_132, e39_135, e39_136, e39_137, e39_140, e39_143, e39_146, e39_147, e39_150, e39_151, e39_152, e39_153, e39_156, e39_157, e39_158, e39_161, e39_162, e39_163, e39_166, e39_169, e39_170, e39_173, e39_174, e39_175, e39_176, e39_179, e39_180, e39_181, e39_182, e39_185, e39_186, zU_app, zbI_some, zbV_some, Int.reduceToNat, Int.reduceLE, Int.reduceLT, Int.reduceEq, Nat.reduceEqDiff, and_self, and_true, true_and, and_false, false_and, if_true, if_false, ne_eq, not_true_eq_false, not_false_eq_true, reduceCtorEq, m_isIn, zb_f hv, iP]
    rfl
theorem m_set5 (d : Nat) (y v : Int) (g : zG) (w : Nat → Int) (h17 : 0 ≤ w 17 ∧ w 17 ≤ 8) (h18 : 0 ≤ w 18 ∧ w 18 ≤ 6) : EvM (d + 2) 39 [.inr (12, 0), .inl 5, .inl y, .inl v] (zRw g w) = some (some (.inl (isW (aSet w 5 y v) 1 0)), upW g w (aSet w 5 y v)) := by
  have iP := fun p => m_isPerson d p (zRw g w) (by rw [zRw_at]; omega)
  have iR := fun p => m_isRule d p (zRw g w) (by rw [zRw_at]; omega)
  simp only [zRw_at] at iP iR
  rw [en39]
  by_cases hv : 0 ≤ v ∧ v < w 17
  · have e : aSet w 5 y v = some (uW w 1 v) := by unfold aSet; simp [hv]
    rw [e]
    simp only [e39_0, e39_1, e39_4, e39_5, e39_6, e39_8, e39_11, e39_14, e39_15, e39_18, e39_20, e39_21, e39_22, e39_25, e39_26, e39_27, e39_30, e39_31, e39_32, e39_35, e39_38, e39_39, e39_40, e39_41, e39_44, e39_47, e39_48, e39_49, e39_50, e39_51, e39_54, e39_57, e39_58, e39_59, e39_62, e39_63, e39_64, e39_67, e39_70, e39_71, e39_72, e39_74, e39_77, e39_80, e39_81, e39_84, e39_86, e39_87, e39_88, e39_89, e39_90, e39_93, e39_94, e39_95, e39_98, e39_99, e39_100, e39_103, e39_106, e39_107, e39_108, e39_111, e39_114, e39_117, e39_118, e39_121, e39_123, e39_124, e39_125, e39_126, e39_127, e39_130, e39_131, e39_132, e39_135, e39_136, e39_137, e39_140, e39_143, e39_146, e39_147, e39_150, e39_151, e39_152, e39_153, e39_156, e39_157, e39_158, e39_161, e39_162, e39_163, e39_166, e39_169, e39_170, e39_173, e39_174, e39_175, e39_176, e39_179, e39_180, e39_181, e39_182, e39_185, e39_186, zU_app, zbI_some, zbV_some, Int.reduceToNat, Int.reduceLE, Int.reduceLT, Int.reduceEq, Nat.reduceEqDiff, and_self, and_true, true_and, and_false, false_and, if_true, if_false, ne_eq, not_true_eq_false, not_false_eq_true, reduceCtorEq, m_isIn, zb_t hv, iP, zU_zRw, m_forgets]
    rfl
  · have e : aSet w 5 y v = none := by unfold aSet; simp; omega
    rw [e]
    simp only [e39_0, e39_1, e39_4, e39_5, e39_6, e39_8, e39_11, e39_14, e39_15, e39_18, e39_20, e39_21, e39_22, e39_25, e39_26, e39_27, e39_30, e39_31, e39_32, e39_35, e39_38, e39_39, e39_40, e39_41, e39_44, e39_47, e39_48, e39_49, e39_50, e39_51, e39_54, e39_57, e39_58, e39_59, e39_62, e39_63, e39_64, e39_67, e39_70, e39_71, e39_72, e39_74, e39_77, e39_80, e39_81, e39_84, e39_86, e39_87, e39_88, e39_89, e39_90, e39_93, e39_94, e39_95, e39_98, e39_99, e39_100, e39_103, e39_106, e39_107, e39_108, e39_111, e39_114, e39_117, e39_118, e39_121, e39_123, e39_124, e39_125, e39_126, e39_127, e39_130, e39_131, e39_132, e39_135, e39_136, e39_137, e39_140, e39_143, e39_146, e39_147, e39_150, e39_151, e39_152, e39_153, e39_156, e39_157, e39_158, e39_161, e39_162, e39_163, e39_166, e39_169, e39_170, e39_173, e39_174, e39_175, e39_176, e39_179, e39_180, e39_181, e39_182, e39_185, e39_186, zU_app, zbI_some, zbV_some, Int.reduceToNat, Int.reduceLE, Int.reduceLT, Int.reduceEq, Nat.reduceEqDiff, and_self, and_true, true_and, and_false, false_and, if_true, if_false, ne_eq, not_true_eq_false, not_false_eq_true, reduceCtorEq, m_isIn, zb_f hv, iP]
    rfl
theorem m_set (d : Nat) (x y v : Int) (g : zG) (w : Nat → Int) (h17 : 0 ≤ w 17 ∧ w 17 ≤ 8) (h18 : 0 ≤ w 18 ∧ w 18 ≤ 6) : EvM (d + 2) 39 [.inr (12, 0), .inl x, .inl y, .inl v] (zRw g w) = some (some (.inl (isW (aSet w x y v) 1 0)), upW g w (aSet w x y v)) := by
  by_cases h : 0 ≤ x ∧ x ≤ 5
  · rcases (show x = 0 ∨ x = 1 ∨ x = 2 ∨ x = 3 ∨ x = 4 ∨ x = 5 by omega) with rfl | rfl | rfl | rfl | rfl | rfl
    · exact m_set0 d y v g w h17 h18
    · exact m_set1 d y v g w h17 h18
    · exact m_set2 d y v g w h17 h18
    · exact m_set3 d y v g w h17 h18
    · exact m_set4 d y v g w h17 h18
    · exact m_set5 d y v g w h17 h18
  · have e : aSet w x y v = none := by
      unfold aSet
      rw [if_neg (by omega), if_neg (by omega), if_neg (by omega), if_neg (by omega), if_neg (by omega), if_neg (by omega)]
    rw [e, en39]
    simp only [e39_0, e39_1, e39_4, e39_5, e39_6, e39_8, e39_11, e39_14, e39_15, e39_18, e39_20, e39_21, e39_22, e39_25, e39_26, e39_27, e39_30, e39_31, e39_32, e39_35, e39_38, e39_39, e39_40, e39_41, e39_44, e39_47, e39_48, e39_49, e39_50, e39_51, e39_54, e39_57, e39_58, e39_59, e39_62, e39_63, e39_64, e39_67, e39_70, e39_71, e39_72, e39_74, e39_77, e39_80, e39_81, e39_84, e39_86, e39_87, e39_88, e39_89, e39_90, e39_93, e39_94, e39_95, e39_98, e39_99, e39_100, e39_103, e39_106, e39_107, e39_108, e39_111, e39_114, e39_117, e39_118, e39_121, e39_123, e39_124, e39_125, e39_126, e39_127, e39_130, e39_131, e39_132, e39_135, e39_136, e39_137, e39_140, e39_143, e39_146, e39_147, e39_150, e39_151, e39_152, e39_153, e39_156, e39_157, e39_158, e39_161, e39_162, e39_163, e39_166, e39_169, e39_170, e39_173, e39_174, e39_175, e39_176, e39_179, e39_180, e39_181, e39_182, e39_185, e39_186, zU_app, zbI_some, zbV_some, Int.reduceToNat, Int.reduceLE, Int.reduceLT, Int.reduceEq, Nat.reduceEqDiff, and_self, and_true, true_and, and_false, false_and, if_true, if_false, ne_eq, not_true_eq_false, not_false_eq_true, reduceCtorEq]
    rw [if_pos (by omega), if_pos (by omega), if_pos (by omega), if_pos (by omega), if_pos (by omega), if_pos (by omega)]
    rfl
def aChange (w : Nat → Int) (a b : Int) : Option (Nat → Int) := if (0 ≤ a ∧ a < w 17) ∧ (0 ≤ b ∧ b < w 17) ∧ a ≠ b then some (uW (uW w (28 + a.toNat) (w (28 + b.toNat))) (28 + b.toNat) (w (28 + a.toNat))) else none
theorem m_change (d : Nat) (a b : Int) (g : zG) (w : Nat → Int) (h17 : 0 ≤ w 17 ∧ w 17 ≤ 8) : EvM (d + 2) 45 [.inr (12, 0), .inl a, .inl b] (zRw g w) = some (some (.inl (isW (aChange w a b) 1 0)), upW g w (aChange w a b)) := by
  have iP := fun p => m_isPerson d p (zRw g w) (by rw [zRw_at]; omega)
  simp only [zRw_at] at iP
  rw [en45]
  by_cases h1 : 0 ≤ a ∧ a < w 17
  · by_cases h2 : 0 ≤ b ∧ b < w 17
    · by_cases h3 : a = b
      · have e : aChange w a b = none := if_neg (fun q => q.2.2 h3)
        rw [e]
        simp only [e45_0, e45_1, e45_2, e45_5, e45_8, e45_9, e45_10, e45_13, e45_16, e45_17, e45_18, e45_21, e45_22, e45_23, e45_24, e45_27, e45_29, e45_30, e45_31, e45_32, e45_33, e45_34, e45_37, e45_39, e45_40, e45_41, e45_42, e45_45, e45_47, e45_48, e45_49, e45_50, e45_51, e45_52, e45_55, e45_57, e45_58, e45_59, e45_60, e45_61, e45_62, e45_65, e45_66, zU_app, zbI_some, zbV_some, Int.reduceToNat, Int.reduceLE, Int.reduceLT, Int.reduceEq, Nat.reduceEqDiff, and_self, and_true, true_and, and_false, false_and, if_true, if_false, ne_eq, not_true_eq_false, not_false_eq_true, reduceCtorEq, iP, zb_t h1, zb_t h2, h3]
        rfl
      · have e : aChange w a b = some _ := if_pos ⟨h1, h2, h3⟩
        rw [e]
        obtain ⟨p, hp⟩ : ∃ k : Nat, a = (k : Int) := ⟨a.toNat, by omega⟩
        obtain ⟨q, hq⟩ : ∃ k : Nat, b = (k : Int) := ⟨b.toNat, by omega⟩
        subst hp hq
        simp only [e45_0, e45_1, e45_2, e45_5, e45_8, e45_9, e45_10, e45_13, e45_16, e45_17, e45_18, e45_21, e45_22, e45_23, e45_24, e45_27, e45_29, e45_30, e45_31, e45_32, e45_33, e45_34, e45_37, e45_39, e45_40, e45_41, e45_42, e45_45, e45_47, e45_48, e45_49, e45_50, e45_51, e45_52, e45_55, e45_57, e45_58, e45_59, e45_60, e45_61, e45_62, e45_65, e45_66, zU_app, zbI_some, zbV_some, Int.reduceToNat, Int.reduceLE, Int.reduceLT, Int.reduceEq, Nat.reduceEqDiff, and_self, and_true, true_and, and_false, false_and, if_true, if_false, ne_eq, not_true_eq_false, not_false_eq_true, reduceCtorEq, iP, zb_t h1, zb_t h2, zRw_at, zU_zRw, m_forgets]
        rw [if_pos h3, zwr_id (x := 28 + (p : Int)) (by omega) (by omega), zwr_id (x := 28 + (q : Int)) (by omega) (by omega), if_pos (by omega), if_pos (by omega), if_pos (by omega), if_pos (by omega), show (28 + (p : Int)).toNat = 28 + p by omega, show (28 + (q : Int)).toNat = 28 + q by omega]
        rfl
    · have e : aChange w a b = none := if_neg (fun q => h2 q.2.1)
      rw [e]
      simp only [e45_0, e45_1, e45_2, e45_5, e45_8, e45_9, e45_10, e45_13, e45_16, e45_17, e45_18, e45_21, e45_22, e45_23, e45_24, e45_27, e45_29, e45_30, e45_31, e45_32, e45_33, e45_34, e45_37, e45_39, e45_40, e45_41, e45_42, e45_45, e45_47, e45_48, e45_49, e45_50, e45_51, e45_52, e45_55, e45_57, e45_58, e45_59, e45_60, e45_61, e45_62, e45_65, e45_66, zU_app, zbI_some, zbV_some, Int.reduceToNat, Int.reduceLE, Int.reduceLT, Int.reduceEq, Nat.reduceEqDiff, and_self, and_true, true_and, and_false, false_and, if_true, if_false, ne_eq, not_true_eq_false, not_false_eq_true, reduceCtorEq, iP, zb_t h1, zb_f h2]
      rfl
  · have e : aChange w a b = none := if_neg (fun q => h1 q.1)
    rw [e]
    simp only [e45_0, e45_1, e45_2, e45_5, e45_8, e45_9, e45_10, e45_13, e45_16, e45_17, e45_18, e45_21, e45_22, e45_23, e45_24, e45_27, e45_29, e45_30, e45_31, e45_32, e45_33, e45_34, e45_37, e45_39, e45_40, e45_41, e45_42, e45_45, e45_47, e45_48, e45_49, e45_50, e45_51, e45_52, e45_55, e45_57, e45_58, e45_59, e45_60, e45_61, e45_62, e45_65, e45_66, zU_app, zbI_some, zbV_some, Int.reduceToNat, Int.reduceLE, Int.reduceLT, Int.reduceEq, Nat.reduceEqDiff, and_self, and_true, true_and, and_false, false_and, if_true, if_false, ne_eq, not_true_eq_false, not_false_eq_true, reduceCtorEq, iP, zb_f h1]
    rfl
theorem m_end (d : Nat) (n : Int) (g : zG) : EvM (d + 1) 51 [.inr (12, 0), .inl n] g = if 0 ≤ n ∧ n ≤ g 12 0 12 then some (some (.inl 1), zU g 12 0 12 n) else some (some (.inl 0), g) := by
  rw [en51]
  by_cases h : 0 ≤ n ∧ n ≤ g 12 0 12
  · rw [if_pos h]
    simp only [e51_0, e51_1, e51_2, e51_3, e51_6, e51_9, e51_12, e51_13, e51_14, e51_15, e51_16, e51_19, e51_20, zU_app, zbI_some, zbV_some, Int.reduceToNat, Int.reduceLE, Int.reduceLT, Int.reduceEq, Nat.reduceEqDiff, and_self, and_true, true_and, and_false, false_and, if_true, if_false, ne_eq, not_true_eq_false, not_false_eq_true, reduceCtorEq, m_isIn, zb_t h]
    rfl
  · rw [if_neg h]
    simp only [e51_0, e51_1, e51_2, e51_3, e51_6, e51_9, e51_12, e51_13, e51_14, e51_15, e51_16, e51_19, e51_20, zU_app, zbI_some, zbV_some, Int.reduceToNat, Int.reduceLE, Int.reduceLT, Int.reduceEq, Nat.reduceEqDiff, and_self, and_true, true_and, and_false, false_and, if_true, if_false, ne_eq, not_true_eq_false, not_false_eq_true, reduceCtorEq, m_isIn, zb_f h]
    rfl
theorem m_fault (d : Nat) (x : Int) (g : zG) : EvM d 131 [.inr (12, 0), .inl x] g = some (some (.inl (if x = 0 then g 12 0 19 else if x = 1 then g 12 0 21 else -1)), g) := by
  rw [en131]
  simp only [e131_0, e131_1, e131_4, e131_5, e131_8, e131_11, e131_12, e131_13, e131_16, e131_17, e131_20, e131_23, e131_24]
  by_cases h0 : x = 0
  · rw [if_neg (fun q => q h0), if_pos h0]
  · rw [if_pos h0, if_neg h0]
    by_cases h1 : x = 1
    · rw [if_neg (fun q => q h1), if_pos h1]
    · rw [if_pos h1, if_neg h1]
