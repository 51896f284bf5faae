/-! the model: goesOn -/
theorem zU_app (g : zG) (k j i k' j' i' : Nat) (x : Int) : zU g k j i x k' j' i' = if k' = k ∧ j' = j ∧ i' = i then x else g k' j' i' := rfl
theorem m_go1 {w : Nat → Int} (h : RuOk w) (d v : Nat) (g : zG) (hw : g 46 0 = w) (hv : g 12 0 22 = (v : Int)) (h1 : 0 < v) (h2 : v < 10000) (hy : -1 ≤ g 12 0 24 ∧ g 12 0 24 ≤ 1) : Ev (d + 2) 180 0 [some (.inr (12, 0)), none, none] [] g = Ev (d + 2) 180 45 [some (.inr (12, 0)), some (.inl (maW w v : Int)), none] [] (zU (zU g 12 0 25 (tuW w v)) 12 0 24 (wyW w v (g 12 0 24))) := by
  have hT : Int.tmod (ctW w v 1 : Int) 2 = tuW w v := by
    unfold tuW
    rw [Int.tmod_eq_emod_of_nonneg (by omega)]
    omega
  simp only [e180_0, e180_1, e180_2, e180_5, e180_8, e180_9, e180_10, e180_11, e180_12, e180_13, e180_16, e180_17, e180_18, e180_21, e180_22, e180_23, e180_26, e180_27, e180_30, e180_31, e180_34, e180_35, e180_38, e180_39, e180_42, e180_46, e180_49, e180_51, e180_52, e180_53, e180_54, e180_55, e180_58, e180_59, e180_62, e180_63, e180_64, e180_65, e180_66, e180_69, e180_70, e180_71, e180_72, e180_73, e180_74, e180_75, e180_76, e180_77, e180_78, e180_81, e180_82, e180_83, e180_86, e180_89, e180_92, e180_93, e180_96, e180_97, e180_100, e180_101, e180_102, e180_105, e180_106, e180_107, e180_108, e180_111, e180_114, e180_117, e180_118, e180_121, e180_122, e180_125, e180_126, e180_129, e180_130, e180_133, e180_134, e180_137, e180_138, e180_139, e180_142, hv, m_rules' h d v g hw h1 h2, zU_app, zbI_some, zbV_some, Int.reduceToNat, Int.reduceLE, Int.reduceLT, Int.reduceEq, Nat.reduceEqDiff, and_self, and_true, true_and, and_false, false_and, if_true, if_false, ne_eq, not_true_eq_false, not_false_eq_true, reduceCtorEq, m_count' h d v 1 g hw, hT]
  by_cases hq : ctW w v 1 % 2 = 1
  · have hT1 : tuW w v = 1 := by unfold tuW; omega
    have hW1 : wyW w v (g 12 0 24) = -g 12 0 24 := if_pos hq
    rw [hT1, hW1, zwr_id (by omega) (by omega)]
    simp
  · have hT1 : tuW w v = 0 := by unfold tuW; omega
    have hW1 : wyW w v (g 12 0 24) = g 12 0 24 := if_neg hq
    rw [hT1, hW1]
    simp
theorem m_go2 {w : Nat → Int} (h : RuOk w) (d v : Nat) (g : zG) (hw : g 46 0 = w) (hp : 0 < w 17 ∧ w 17 ≤ 8) (hs : 0 ≤ g 12 0 23 ∧ g 12 0 23 < 8) (hy : g 12 0 24 = 1 ∨ g 12 0 24 = -1) : Ev (d + 2) 180 45 [some (.inr (12, 0)), some (.inl (maW w v : Int)), none] [] g = Ev (d + 2) 180 81 [some (.inr (12, 0)), some (.inl (maW w v : Int)), some (.inl (w 17))] [] (zU g 12 0 23 ((g 12 0 23 + g 12 0 24 * (1 + (ctW w v 2 : Int))) % (w 17))) := by
  have hw17 : g 46 0 17 = w 17 := by rw [hw]
  have c2 := ctW_le h v 2
  simp only [e180_0, e180_1, e180_2, e180_5, e180_8, e180_9, e180_10, e180_11, e180_12, e180_13, e180_16, e180_17, e180_18, e180_21, e180_22, e180_23, e180_26, e180_27, e180_30, e180_31, e180_34, e180_35, e180_38, e180_39, e180_42, e180_45, e180_46, e180_49, e180_51, e180_52, e180_53, e180_54, e180_55, e180_58, e180_59, e180_62, e180_63, e180_64, e180_65, e180_66, e180_69, e180_70, e180_71, e180_72, e180_73, e180_74, e180_75, e180_76, e180_77, e180_78, e180_82, e180_83, e180_86, e180_89, e180_92, e180_93, e180_96, e180_97, e180_100, e180_101, e180_102, e180_105, e180_106, e180_107, e180_108, e180_111, e180_114, e180_117, e180_118, e180_121, e180_122, e180_125, e180_126, e180_129, e180_130, e180_133, e180_134, e180_137, e180_138, e180_139, e180_142, zU_app, zbI_some, zbV_some, Int.reduceToNat, Int.reduceLE, Int.reduceLT, Int.reduceEq, Nat.reduceEqDiff, and_self, and_true, true_and, and_false, false_and, if_true, if_false, ne_eq, not_true_eq_false, not_false_eq_true, reduceCtorEq, m_count' h d v 2 g hw, hw17]
  rw [zwr_id (x := 1 + (ctW w v 2 : Int)) (by omega) (by omega)]
  have hb1 : -8 ≤ g 12 0 24 * (1 + (ctW w v 2 : Int)) ∧ g 12 0 24 * (1 + (ctW w v 2 : Int)) ≤ 8 := by rcases hy with q | q <;> rw [q] <;> omega
  generalize g 12 0 24 * (1 + (ctW w v 2 : Int)) = u at hb1 ⊢
  rw [zwr_id (x := u) (by omega) (by omega), zwr_id (x := g 12 0 23 + u) (by omega) (by omega), if_neg (by omega)]
  have t1 := Int.tmod_lt_of_pos (g 12 0 23 + u) hp.1
  have t2 := Int.lt_tmod_of_pos (g 12 0 23 + u) hp.1
  have f1 := q_fm2 (a := g 12 0 23 + u) hp.1
  rw [zwr_id (by omega) (by omega), if_neg (by omega), f1]
theorem m_go3 (d v : Nat) (g : zG) (a b : Option zV) (hv : g 12 0 22 = (v : Int)) (h1 : 0 < v) (h2 : v < 10000) : Ev (d + 2) 180 81 [some (.inr (12, 0)), a, b] [] g = Ev (d + 2) 180 105 [some (.inr (12, 0)), a, b] [] (zU g 12 0 22 (nxN v : Int)) := by
  simp only [e180_0, e180_1, e180_2, e180_5, e180_8, e180_9, e180_10, e180_11, e180_12, e180_13, e180_16, e180_17, e180_18, e180_21, e180_22, e180_23, e180_26, e180_27, e180_30, e180_31, e180_34, e180_35, e180_38, e180_39, e180_42, e180_45, e180_46, e180_49, e180_51, e180_52, e180_53, e180_54, e180_55, e180_58, e180_59, e180_62, e180_63, e180_64, e180_65, e180_66, e180_69, e180_70, e180_71, e180_72, e180_73, e180_74, e180_75, e180_76, e180_77, e180_78, e180_81, e180_82, e180_83, e180_86, e180_89, e180_92, e180_93, e180_96, e180_97, e180_100, e180_101, e180_102, e180_106, e180_107, e180_108, e180_111, e180_114, e180_117, e180_118, e180_121, e180_122, e180_125, e180_126, e180_129, e180_130, e180_133, e180_134, e180_137, e180_138, e180_139, e180_142, hv, zU_app, zbI_some, zbV_some, Int.reduceToNat, Int.reduceLE, Int.reduceLT, Int.reduceEq, Nat.reduceEqDiff, and_self, and_true, true_and, and_false, false_and, if_true, if_false, ne_eq, not_true_eq_false, not_false_eq_true, reduceCtorEq]
  by_cases h9 : v = 9999
  · rw [show nxN v = 1 from if_pos h9, if_neg (by omega)]
    rfl
  · rw [show nxN v = v + 1 from if_neg h9, if_pos (by omega), zwr_id (by omega) (by omega)]
    rfl
theorem nxN_rng {v : Nat} (h2 : v < 10000) : 0 < nxN v ∧ nxN v < 10000 := by unfold nxN; split <;> omega
theorem m_go4 {w : Nat → Int} (h : RuOk w) (d v : Nat) (g : zG) (a b : Option zV) (hw : g 46 0 = w) (hv : g 12 0 22 = (nxN v : Int)) (h1 : 0 < v) (h2 : v < 10000) (hr : g 12 0 26 = (rnW w v : Int)) : Ev (d + 2) 180 105 [some (.inr (12, 0)), a, b] [] g = some (none, zU g 12 0 26 (rnW w (nxN v) : Int)) := by
  obtain ⟨n1, n2⟩ := nxN_rng h2
  simp only [e180_0, e180_1, e180_2, e180_5, e180_8, e180_9, e180_10, e180_11, e180_12, e180_13, e180_16, e180_17, e180_18, e180_21, e180_22, e180_23, e180_26, e180_27, e180_30, e180_31, e180_34, e180_35, e180_38, e180_39, e180_42, e180_45, e180_46, e180_49, e180_51, e180_52, e180_53, e180_54, e180_55, e180_58, e180_59, e180_62, e180_63, e180_64, e180_65, e180_66, e180_69, e180_70, e180_71, e180_72, e180_73, e180_74, e180_75, e180_76, e180_77, e180_78, e180_81, e180_82, e180_83, e180_86, e180_89, e180_92, e180_93, e180_96, e180_97, e180_100, e180_101, e180_102, e180_105, e180_106, e180_107, e180_108, e180_111, e180_114, e180_117, e180_118, e180_121, e180_122, e180_125, e180_126, e180_129, e180_130, e180_133, e180_134, e180_137, e180_138, e180_139, e180_142, hv, m_rules' h d (nxN v) g hw n1 n2, zU_app, zbI_some, zbV_some, Int.reduceToNat, Int.reduceLE, Int.reduceLT, Int.reduceEq, Nat.reduceEqDiff, and_self, and_true, true_and, and_false, false_and, if_true, if_false, ne_eq, not_true_eq_false, not_false_eq_true, reduceCtorEq, hr]
  have rl := rnW_le w v
  by_cases hm : maW w (nxN v) = 0
  · have e : rnW w (nxN v) = 0 := by
      rw [show nxN v = (nxN v - 1) + 1 by omega, rnW, ← show nxN v = (nxN v - 1) + 1 by omega, if_pos hm]
    rw [hm, e]
    rfl
  · rw [if_pos (by omega)]
    by_cases h9 : v = 9999
    · have e : nxN v = 1 := if_pos h9
      rw [e] at hm ⊢
      rw [show rnW w 1 = 1 by rw [rnW, if_neg hm]; rfl]
      rfl
    · have e : nxN v = v + 1 := if_neg h9
      rw [e] at hm ⊢
      rw [if_pos (by omega), zwr_id (by omega) (by omega), rnW, if_neg hm]
      rfl
theorem m_goesOn (d : Nat) (g : zG) (h : RuOk (g 46 0)) (hp : 0 < g 46 0 17 ∧ g 46 0 17 ≤ 8) (v : Nat) (hv : g 12 0 22 = (v : Int)) (hv2 : 0 < v ∧ v < 10000) (hs : 0 ≤ g 12 0 23 ∧ g 12 0 23 < 8) (hw : g 12 0 24 = 1 ∨ g 12 0 24 = -1) (hr : g 12 0 26 = (rnW (g 46 0) v : Int)) : EvM (d + 2) 180 [.inr (12, 0)] g = some (none, mCu g (nxN v) (seW (g 46 0) v (g 12 0 23) (g 12 0 24)) (wyW (g 46 0) v (g 12 0 24)) (tuW (g 46 0) v) (rnW (g 46 0) (nxN v))) := by
  have hwy : wyW (g 46 0) v (g 12 0 24) = 1 ∨ wyW (g 46 0) v (g 12 0 24) = -1 := by
    unfold wyW
    rcases hw with q | q <;> rw [q] <;> split <;> simp
  rw [en180, m_go1 h d v g rfl hv hv2.1 hv2.2 (by omega)]
  rw [m_go2 (w := g 46 0) h d v (zU (zU g 12 0 25 (tuW (g 46 0) v)) 12 0 24 (wyW (g 46 0) v (g 12 0 24))) rfl hp hs hwy]
  rw [m_go3 d v (zU (zU (zU g 12 0 25 (tuW (g 46 0) v)) 12 0 24 (wyW (g 46 0) v (g 12 0 24))) 12 0 23 _) _ _ hv hv2.1 hv2.2]
  rw [m_go4 (w := g 46 0) h d v (zU (zU (zU (zU g 12 0 25 (tuW (g 46 0) v)) 12 0 24 (wyW (g 46 0) v (g 12 0 24))) 12 0 23 _) 12 0 22 _) _ _ rfl rfl hv2.1 hv2.2 hr]
  congr 2
  apply mCu_of
  · rfl
  · rfl
  · rfl
  · rfl
  · rfl
  · intro k j i hk
    rw [zU_ne (by omega), zU_ne (by omega), zU_ne (by omega), zU_ne (by omega), zU_ne (by omega)]
