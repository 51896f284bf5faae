/-! THE CLASS: the next token -/
theorem k_readWord (d T ta : Nat) (b : Nat → Int) (g : zG) (hT : TpAt g b T) (hta : g 9 0 3 = (ta : Int)) (hat : g 9 0 4 = (ta : Int)) (hle : ta ≤ T) : ∃ g', EvM (d + 6) 61 [.inr (9, 0)] g = some (none, g') ∧ g' 9 0 1 = kT (wdT b ta (skL b (T - ta) ta)) ∧ g' 9 0 3 = (ta : Int) ∧ g' 9 0 4 = (skL b (T - ta) ta : Int) ∧ Fr sAd g g' := by
  have e1 := k_rwL d T b (T - ta) ta g (by omega) hT hat
  have hsk := skL_le b (T - ta) ta
  have f1 : Fr sAd g (zU g 9 0 4 (skL b (T - ta) ta : Int)) := Fr.u (by unfold sAd; omega)
  have k1 := k_keyword d ta (skL b (T - ta) ta) T b (zU g 9 0 4 (skL b (T - ta) ta : Int)) (hT.ad f1) hta rfl (by omega) (by omega)
  refine ⟨zU (zU g 9 0 4 (skL b (T - ta) ta : Int)) 9 0 1 (kT (wdT b ta (skL b (T - ta) ta))), ?_, rfl, hta, rfl, f1.tr (Fr.u (by unfold sAd; omega))⟩
  rw [en61, e1]
  simp only [e61_1, e61_4, e61_5, e61_8, e61_11, e61_12, e61_13, e61_16, e61_19, e61_22, e61_25, e61_26, e61_27, e61_30, e61_31, e61_32, e61_35, e61_38, e61_39, e61_40, e61_43, e61_46, zU_app, zbI_some, zbV_some, Int.reduceToNat, Int.reduceLE, Int.reduceLT, Int.reduceEq, Nat.reduceEqDiff, and_self, and_true, true_and, and_false, false_and, if_true, if_false, ne_eq, not_true_eq_false, not_false_eq_true, reduceCtorEq, eq_self, true_or, or_true, or_false, false_or, zbR_some, k1]
theorem k_readNumber (d T ta : Nat) (b : Nat → Int) (g : zG) (hT : TpAt g b T) (hta : g 9 0 3 = (ta : Int)) (hat : g 9 0 4 = (ta : Int)) (hle : ta ≤ T) : ∃ g', EvM (d + 6) 76 [.inr (9, 0)] g = some (none, g') ∧ g' 9 0 1 = (if skD b (T - ta) ta - ta < 5 then 9 else 8) ∧ g' 9 0 3 = (ta : Int) ∧ g' 9 0 4 = (skD b (T - ta) ta : Int) ∧ (skD b (T - ta) ta - ta < 5 → g' 9 0 2 = dvS b ta (T - ta) ta 0) ∧ Fr sAd g g' := by
  have hT4 := hT.2.1
  have hsk := skD_le b (T - ta) ta
  have f0 : Fr sAd g (zU g 9 0 2 0) := Fr.u (by unfold sAd; omega)
  obtain ⟨y, e1, h1⟩ := k_rnL d T ta b (T - ta) ta 0 0 (zU g 9 0 2 0) (by omega) (hT.ad f0) hat rfl (fun _ => rfl) ⟨by omega, by omega, by omega, fun _ => rfl, fun _ => by omega, fun _ => by omega, fun _ => by omega⟩
  have z1 : zwr ((skD b (T - ta) ta : Int) - (ta : Int)) = ((skD b (T - ta) ta - ta : Nat) : Int) := by rw [zwr_id (by omega) (by omega)]; omega
  refine ⟨zU (zU (zU (zU g 9 0 2 0) 9 0 4 (skD b (T - ta) ta : Int)) 9 0 2 y) 9 0 1 (if skD b (T - ta) ta - ta < 5 then 9 else 8), ?_, rfl, hta, rfl, fun h => h1 (by omega), ((f0.tr (Fr.u (by unfold sAd; omega))).tr (Fr.u (by unfold sAd; omega))).tr (Fr.u (by unfold sAd; omega))⟩
  rw [en76]
  simp only [e76_0, e76_1, e76_2, e76_6, e76_9, e76_10, e76_13, e76_16, e76_17, e76_18, e76_21, e76_24, e76_27, e76_30, e76_31, e76_32, e76_35, e76_37, e76_38, e76_39, e76_40, e76_43, e76_46, e76_47, e76_49, e76_50, e76_53, e76_54, e76_55, e76_58, e76_59, e76_60, e76_63, e76_67, e76_68, e76_71, e76_72, e76_75, e76_76, e76_77, e76_80, e76_82, e76_85, e76_87, e76_90]
  rw [e1]
  simp only [e76_0, e76_1, e76_2, e76_6, e76_9, e76_10, e76_13, e76_16, e76_17, e76_18, e76_21, e76_24, e76_27, e76_30, e76_31, e76_32, e76_35, e76_37, e76_38, e76_39, e76_40, e76_43, e76_46, e76_47, e76_49, e76_50, e76_53, e76_54, e76_55, e76_58, e76_59, e76_60, e76_63, e76_66, e76_67, e76_68, e76_71, e76_72, e76_75, e76_76, e76_77, e76_80, e76_82, e76_85, e76_87, e76_90, zU_app, zbI_some, zbV_some, Int.reduceToNat, Int.reduceLE, Int.reduceLT, Int.reduceEq, Nat.reduceEqDiff, and_self, and_true, true_and, and_false, false_and, if_true, if_false, ne_eq, not_true_eq_false, not_false_eq_true, reduceCtorEq, eq_self, true_or, or_true, or_false, false_or, zbR_some, hta, z1]
  by_cases q : skD b (T - ta) ta - ta < 5
  · rw [if_neg (by omega), if_pos q]
  · rw [if_pos (by omega), if_neg q]
theorem wdT_ne2 (b : Nat → Int) (ta e : Nat) : wdT b ta e ≠ 2 := by
  unfold wdT nmT
  repeat' split
  all_goals decide
theorem mark_ok : ∀ c : Nat, c < 256 → decide (0 ≤ zix (zi2b (c : Int)) (zt 12) 0) = mkS (c : Int) ∧ zi2c (c : Int) = (c : Int) := by decide +kernel
theorem zt12 : 0 < (zt 12).length := by decide +kernel
set_option maxHeartbeats 1000000 in
theorem k_advance (d T a : Nat) (b : Nat → Int) (g : zG) (hT : TpAt g b T) (hB : ByOk b T) (ha : g 9 0 4 = (a : Int)) (hle : a ≤ T) : ∃ g', EvM (d + 7) 57 [.inr (9, 0)] g = some (none, g') ∧ g' 9 0 1 = kT (toT b T a) ∧ g' 9 0 3 = (taT b T a : Int) ∧ g' 9 0 4 = (enT b T a : Int) ∧ (toT b T a = 2 → ∀ v, g' 9 0 2 = vaT b T a v) ∧ Fr sAd g g' := by
  have hT4 := hT.2.1
  obtain ⟨t1, t2⟩ := taT_le (b := b) hle
  have e1 := k_adB d T b none (T - a) a g (by omega) hT ha
  rw [show skB b (T - a) a = taT b T a from rfl] at e1
  unfold toT vaT enT
  generalize taT b T a = ta at t1 t2 e1 ⊢
  let g2 := zU (zU g 9 0 4 (ta : Int)) 9 0 3 (ta : Int)
  have f2 : Fr sAd g g2 := (Fr.u (by unfold sAd; omega)).tr (Fr.u (by unfold sAd; omega))
  have T2 := hT.ad f2
  have ks := k_sign (d + 6) ta T b g2 T2
  have r0 : g2 9 0 0 = (T : Int) := T2.1
  have e2 : EvM (d + 7) 57 [.inr (9, 0)] g = Ev (d + 7) 57 55 [some (.inr (9, 0)), some (.inl (if ta < T then b ta else 0))] [] g2 := by
    rw [en57, e1]
    simp only [e57_1, e57_4, e57_5, e57_8, e57_11, e57_12, e57_13, e57_16, e57_19, e57_22, e57_25, e57_26, e57_27, e57_30, e57_31, e57_32, e57_35, e57_38, e57_39, e57_40, e57_43, e57_46, e57_47, e57_48, e57_51, e57_54, e57_56, e57_59, e57_60, e57_63, e57_66, e57_67, e57_68, e57_71, e57_74, e57_75, e57_78, e57_81, e57_82, e57_85, e57_88, e57_89, e57_92, e57_95, e57_96, e57_99, e57_102, e57_103, e57_105, e57_106, e57_107, e57_110, e57_113, e57_114, e57_117, e57_119, e57_122, e57_123, e57_124, e57_127, e57_128, e57_129, e57_132, zU_app, zbI_some, zbV_some, Int.reduceToNat, Int.reduceLE, Int.reduceLT, Int.reduceEq, Nat.reduceEqDiff, and_self, and_true, true_and, and_false, false_and, if_true, if_false, ne_eq, not_true_eq_false, not_false_eq_true, reduceCtorEq, eq_self, true_or, or_true, or_false, false_or, zbR_some]
    rw [show zU (zU g 9 0 4 (ta : Int)) 9 0 3 (ta : Int) = g2 from rfl, ks]
    simp only [zU_app, zbI_some, zbV_some, Int.reduceToNat, Int.reduceLE, Int.reduceLT, Int.reduceEq, Nat.reduceEqDiff, and_self, and_true, true_and, and_false, false_and, if_true, if_false, ne_eq, not_true_eq_false, not_false_eq_true, reduceCtorEq, eq_self, true_or, or_true, or_false, false_or, zbR_some]
  rw [e2]
  by_cases hq : ta < T
  · simp only [if_pos hq]
    have hb := hB ta hq
    by_cases hl : isL (b ta) = true
    · rw [if_pos hl, if_pos hl]
      obtain ⟨g3, e3, a1, a3, a4, f3⟩ := k_readWord d T ta b g2 T2 rfl rfl t2
      refine ⟨g3, ?_, a1, a3, a4, fun h => ?_, f2.tr f3⟩
      · simp only [e57_1, e57_4, e57_5, e57_8, e57_11, e57_12, e57_13, e57_16, e57_19, e57_22, e57_25, e57_26, e57_27, e57_30, e57_31, e57_32, e57_35, e57_38, e57_39, e57_40, e57_43, e57_46, e57_47, e57_48, e57_51, e57_54, e57_55, e57_56, e57_59, e57_60, e57_63, e57_66, e57_67, e57_68, e57_71, e57_74, e57_75, e57_78, e57_81, e57_82, e57_85, e57_88, e57_89, e57_92, e57_95, e57_96, e57_99, e57_102, e57_103, e57_105, e57_106, e57_107, e57_110, e57_113, e57_114, e57_117, e57_119, e57_122, e57_123, e57_124, e57_127, e57_128, e57_129, e57_132, zU_app, zbI_some, zbV_some, Int.reduceToNat, Int.reduceLE, Int.reduceLT, Int.reduceEq, Nat.reduceEqDiff, and_self, and_true, true_and, and_false, false_and, if_true, if_false, ne_eq, not_true_eq_false, not_false_eq_true, reduceCtorEq, eq_self, true_or, or_true, or_false, false_or, zbR_some, r0, show g2 9 0 4 = (ta : Int) from rfl, k_isLetter, zbo_if, e3]
        rw [if_pos (by omega), if_pos hl]
      · exfalso
        exact wdT_ne2 _ _ _ h
    · rw [if_neg hl, if_neg hl]
      by_cases hd : isD (b ta) = true
      · rw [if_pos hd, if_pos hd]
        obtain ⟨g3, e3, a1, a3, a4, a5, f3⟩ := k_readNumber d T ta b g2 T2 rfl rfl t2
        refine ⟨g3, ?_, ?_, a3, a4, fun h v => ?_, f2.tr f3⟩
        · simp only [e57_1, e57_4, e57_5, e57_8, e57_11, e57_12, e57_13, e57_16, e57_19, e57_22, e57_25, e57_26, e57_27, e57_30, e57_31, e57_32, e57_35, e57_38, e57_39, e57_40, e57_43, e57_46, e57_47, e57_48, e57_51, e57_54, e57_55, e57_56, e57_59, e57_60, e57_63, e57_66, e57_67, e57_68, e57_71, e57_74, e57_75, e57_78, e57_81, e57_82, e57_85, e57_88, e57_89, e57_92, e57_95, e57_96, e57_99, e57_102, e57_103, e57_105, e57_106, e57_107, e57_110, e57_113, e57_114, e57_117, e57_119, e57_122, e57_123, e57_124, e57_127, e57_128, e57_129, e57_132, zU_app, zbI_some, zbV_some, Int.reduceToNat, Int.reduceLE, Int.reduceLT, Int.reduceEq, Nat.reduceEqDiff, and_self, and_true, true_and, and_false, false_and, if_true, if_false, ne_eq, not_true_eq_false, not_false_eq_true, reduceCtorEq, eq_self, true_or, or_true, or_false, false_or, zbR_some, r0, show g2 9 0 4 = (ta : Int) from rfl, k_isLetter, k_isDigit, zbo_if, e3]
          rw [if_pos (by omega), if_neg hl, if_pos hd]
        · rw [a1]
          by_cases z : skD b (T - ta) ta - ta < 5
          · rw [if_pos z, if_pos z]; rfl
          · rw [if_neg z, if_neg z]; rfl
        · rw [if_pos ⟨hq, Bool.eq_false_iff.mpr hl, hd⟩]
          by_cases z : skD b (T - ta) ta - ta < 5
          · exact a5 z
          · rw [if_neg z] at h; cases h
      · rw [if_neg hd, if_neg hd]
        obtain ⟨c, hc⟩ : ∃ c : Nat, b ta = (c : Int) := ⟨(b ta).toNat, by omega⟩
        obtain ⟨m1, m2⟩ := mark_ok c (by omega)
        have ki := j_indexOf (d + 3) 12 (c : Int) g2 (by omega) zt12
        have z1 : zwr ((ta : Int) + 1) = ((ta + 1 : Nat) : Int) := by rw [zwr_id (by omega) (by omega)]; omega
        refine ⟨zU (zU g2 9 0 1 (if mkS (c : Int) then (c : Int) else 8)) 9 0 4 ((ta + 1 : Nat) : Int), ?_, ?_, rfl, rfl, fun h => ?_, (f2.tr (Fr.u (by unfold sAd; omega))).tr (Fr.u (by unfold sAd; omega))⟩
        · rw [hc] at hl hd ⊢
          simp only [e57_1, e57_4, e57_5, e57_8, e57_11, e57_12, e57_13, e57_16, e57_19, e57_22, e57_25, e57_26, e57_27, e57_30, e57_31, e57_32, e57_35, e57_38, e57_39, e57_40, e57_43, e57_46, e57_47, e57_48, e57_51, e57_54, e57_55, e57_56, e57_59, e57_60, e57_63, e57_66, e57_67, e57_68, e57_71, e57_74, e57_75, e57_78, e57_81, e57_82, e57_85, e57_88, e57_89, e57_92, e57_95, e57_96, e57_99, e57_102, e57_103, e57_105, e57_106, e57_107, e57_110, e57_113, e57_114, e57_117, e57_119, e57_122, e57_123, e57_124, e57_127, e57_128, e57_129, e57_132, zU_app, zbI_some, zbV_some, Int.reduceToNat, Int.reduceLE, Int.reduceLT, Int.reduceEq, Nat.reduceEqDiff, and_self, and_true, true_and, and_false, false_and, if_true, if_false, ne_eq, not_true_eq_false, not_false_eq_true, reduceCtorEq, eq_self, true_or, or_true, or_false, false_or, zbR_some, r0, show g2 9 0 4 = (ta : Int) from rfl, k_isLetter, k_isDigit, zbo_if, m2, ki, z1]
          rw [if_pos (by omega), if_neg hl, if_neg hd]
          by_cases z : 0 ≤ zix (zi2b (c : Int)) (zt 12) 0
          · rw [if_neg (by omega), show mkS (c : Int) = true by rw [← m1]; exact decide_eq_true z, if_pos rfl]
          · rw [if_pos (by omega), show mkS (c : Int) = false by rw [← m1]; exact decide_eq_false z, if_neg (by decide)]
        · rw [hc]
          show (if mkS (c : Int) then (c : Int) else 8) = _
          by_cases z : mkS (c : Int) = true
          · rw [if_pos z, if_pos z]
            unfold kT
            rw [if_neg (by omega), if_neg (by omega), if_neg (by omega), if_neg (by omega), if_neg (by omega), if_neg (by omega), if_neg (by omega), if_neg (by omega), if_neg (by omega)]
            omega
          · rw [if_neg z, if_neg z]; rfl
        · exfalso
          rw [hc] at h
          split at h <;> omega
  · simp only [if_neg hq]
    refine ⟨zU g2 9 0 1 0, ?_, rfl, rfl, rfl, fun h => (by cases h), f2.tr (Fr.u (by unfold sAd; omega))⟩
    simp only [e57_1, e57_4, e57_5, e57_8, e57_11, e57_12, e57_13, e57_16, e57_19, e57_22, e57_25, e57_26, e57_27, e57_30, e57_31, e57_32, e57_35, e57_38, e57_39, e57_40, e57_43, e57_46, e57_47, e57_48, e57_51, e57_54, e57_55, e57_56, e57_59, e57_60, e57_63, e57_66, e57_67, e57_68, e57_71, e57_74, e57_75, e57_78, e57_81, e57_82, e57_85, e57_88, e57_89, e57_92, e57_95, e57_96, e57_99, e57_102, e57_103, e57_105, e57_106, e57_107, e57_110, e57_113, e57_114, e57_117, e57_119, e57_122, e57_123, e57_124, e57_127, e57_128, e57_129, e57_132, zU_app, zbI_some, zbV_some, Int.reduceToNat, Int.reduceLE, Int.reduceLT, Int.reduceEq, Nat.reduceEqDiff, and_self, and_true, true_and, and_false, false_and, if_true, if_false, ne_eq, not_true_eq_false, not_false_eq_true, reduceCtorEq, eq_self, true_or, or_true, or_false, false_or, zbR_some, r0, show g2 9 0 4 = (ta : Int) from rfl]
    rw [if_neg (by omega)]
