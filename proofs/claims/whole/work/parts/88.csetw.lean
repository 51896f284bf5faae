/-! THE CLASS: set -/
theorem k_setY (d : Nat) (x y v : Int) (g g1 : zG) (h : EvM (d + 2) 29 [.inr (11, 0), .inl x, .inl y, .inl v] g = some (some (.inl 1), g1)) : EvM (d + 3) 28 [.inr (11, 0), .inl x, .inl y, .inl v] g = some (some (.inl 1), zU g1 2 0 0 0) := by
  rw [en28]
  simp only [e28_0, e28_1, e28_2, e28_3, e28_4, e28_7, e28_9, e28_11, e28_14, e28_15, e28_18, e28_21, e28_23, zU_app, zbI_some, zbV_some, Int.reduceToNat, Int.reduceLE, Int.reduceLT, Int.reduceEq, Nat.reduceEqDiff, and_self, and_true, true_and, and_false, false_and, if_true, if_false, ne_eq, not_true_eq_false, not_false_eq_true, reduceCtorEq, eq_self, true_or, or_true, or_false, false_or, zbR_some, h, k_forget]
theorem k_setN (d : Nat) (x y v : Int) (g : zG) (h : EvM (d + 2) 29 [.inr (11, 0), .inl x, .inl y, .inl v] g = some (some (.inl 0), g)) : EvM (d + 3) 28 [.inr (11, 0), .inl x, .inl y, .inl v] g = some (some (.inl 0), g) := by
  rw [en28]
  simp only [e28_0, e28_1, e28_2, e28_3, e28_4, e28_7, e28_9, e28_11, e28_14, e28_15, e28_18, e28_21, e28_23, zU_app, zbI_some, zbV_some, Int.reduceToNat, Int.reduceLE, Int.reduceLT, Int.reduceEq, Nat.reduceEqDiff, and_self, and_true, true_and, and_false, false_and, if_true, if_false, ne_eq, not_true_eq_false, not_false_eq_true, reduceCtorEq, eq_self, true_or, or_true, or_false, false_or, zbR_some, h]
theorem op_set {g g1 : zG} {ls : List (List (Int × Int) × List (Int × Int))} {w' : Nat → Int} (h : RdAt g1 0 w' ls) (hf : Fr (sRd 0) g g1) : OpAt g (zU g1 2 0 0 0) ls (some w') := ⟨h.hi 0 0, rfl, (hf.up (fun k a x q => Or.inl q)).tr (Fr.u (Or.inr ⟨rfl, rfl, rfl⟩))⟩
theorem k_switch {w : Nat → Int} (d j r : Nat) (v : Int) (g : zG) (hA : RuAt g j w) (hX : RuX w) (hr : r < nR w) (hv : v = 0 ∨ v = 1) : ∃ g', EvM (d + 1) 31 [.inr (6, j), .inl (r : Int), .inl v] g = some (some (.inl 1), g') ∧ RuAt g' j (uW w (40 + 4 * r + 3) v) ∧ Fr (fun k a x => k = 6 ∧ a = j ∧ x = 4) g g' := by
  obtain ⟨n1, n2⟩ := hX.nr
  have k1 := k_rThere d j r (w 18) g hA.1 hX.1.2
  rw [zb_t (by omega)] at k1
  obtain ⟨a0, a1, a2, a3, a4⟩ := hA
  have hm := mk128 (onB w) n2
  have h128 : 2 ^ r ≤ 2 ^ 7 := Nat.pow_le_pow_right (by decide) (by omega)
  have ne : ∀ i, i ≠ 40 + 4 * r + 3 → uW w (40 + 4 * r + 3) v i = w i := fun i q => uW_ne q
  have hn : nR (uW w (40 + 4 * r + 3) v) = nR w := by unfold nR; rw [ne 18 (by omega)]
  have on' : ∀ i, onB (uW w (40 + 4 * r + 3) v) i = if i = r then decide (v = 1) else onB w i := by
    intro i
    unfold onB
    by_cases q : i = r
    · subst q; rw [uW_eq, if_pos rfl]
    · rw [ne _ (by omega), if_neg q]
  have key : (if v = 1 then zor (mk (onB w) (nR w) : Int) (zshl 1 (r : Int)) else zand (mk (onB w) (nR w) : Int) (zxor (zshl 1 (r : Int)) (-1))) = (mk (onB (uW w (40 + 4 * r + 3) v)) (nR w) : Int) := by
    rw [zshl1 r (by omega)]
    rcases hv with rfl | rfl
    · rw [if_neg (by decide), zxor_m1 r (by omega) (by omega)]
      congr 1
      refine mk_clr n2 (by omega) (fun i hi => ?_)
      rw [on']
      by_cases q : i = r
      · simp [q]
      · simp [q]
    · rw [if_pos rfl, zor_nat (by omega) (by omega)]
      congr 1
      refine mk_or hr (fun i hi => ?_)
      rw [on']
      by_cases q : i = r
      · simp [q]
      · simp [q]
  refine ⟨zU g 6 j 4 (mk (onB (uW w (40 + 4 * r + 3) v)) (nR w) : Int), ?_, ⟨?_, ?_, ?_, ?_, ?_⟩, Fr.u ⟨rfl, rfl, rfl⟩⟩
  · rw [en31, ← key]
    rcases hv with rfl | rfl
    · simp only [e31_0, e31_1, e31_2, e31_5, e31_8, e31_9, e31_12, e31_13, e31_14, e31_17, e31_18, e31_19, e31_20, e31_21, e31_22, e31_25, e31_26, e31_29, e31_30, e31_31, e31_32, e31_33, e31_36, e31_37, e31_40, e31_41, e31_42, e31_43, e31_44, e31_45, e31_46, e31_49, e31_50, zU_app, zbI_some, zbV_some, Int.reduceToNat, Int.reduceLE, Int.reduceLT, Int.reduceEq, Nat.reduceEqDiff, and_self, and_true, true_and, and_false, false_and, if_true, if_false, ne_eq, not_true_eq_false, not_false_eq_true, reduceCtorEq, eq_self, true_or, or_true, or_false, false_or, zbR_some, k1, a2]
    · simp only [e31_0, e31_1, e31_2, e31_5, e31_8, e31_9, e31_12, e31_13, e31_14, e31_17, e31_18, e31_19, e31_20, e31_21, e31_22, e31_25, e31_26, e31_29, e31_30, e31_31, e31_32, e31_33, e31_36, e31_37, e31_40, e31_41, e31_42, e31_43, e31_44, e31_45, e31_46, e31_49, e31_50, zU_app, zbI_some, zbV_some, Int.reduceToNat, Int.reduceLE, Int.reduceLT, Int.reduceEq, Nat.reduceEqDiff, and_self, and_true, true_and, and_false, false_and, if_true, if_false, ne_eq, not_true_eq_false, not_false_eq_true, reduceCtorEq, eq_self, true_or, or_true, or_false, false_or, zbR_some, k1, a2]
  · rw [zU_ne (by omega), ne 18 (by omega)]; exact a0
  · intro q hq
    rw [hn] at hq
    rw [ne _ (by omega), ne _ (by omega), ne _ (by omega)]
    exact a1 q hq
  · rw [zU_eq, hn]
  · rw [zU_ne (by omega), hn, a3]
    congr 1
    exact mk_cong (fun i hi => by unfold tuB; rw [ne _ (by omega)])
  · rw [zU_ne (by omega), hn, a4]
    congr 1
    exact mk_cong (fun i hi => by unfold tuB; rw [ne _ (by omega)])
theorem k_switchN {w : Nat → Int} (d j : Nat) (y v : Int) (g : zG) (hA : RuAt g j w) (hX : RuX w) (hn : ¬ ((0 ≤ y ∧ y < w 18) ∧ 0 ≤ v ∧ v ≤ 1)) : EvM (d + 1) 31 [.inr (6, j), .inl y, .inl v] g = some (some (.inl 0), g) := by
  have k1 := k_rThere d j y (w 18) g hA.1 hX.1.2
  rw [en31]
  simp only [e31_0, e31_1, e31_2, e31_5, e31_8, e31_9, e31_12, e31_13, e31_14, e31_17, e31_18, e31_19, e31_20, e31_21, e31_22, e31_25, e31_26, e31_29, e31_30, e31_31, e31_32, e31_33, e31_36, e31_37, e31_40, e31_41, e31_42, e31_43, e31_44, e31_45, e31_46, e31_49, e31_50, zU_app, zbI_some, zbV_some, Int.reduceToNat, Int.reduceLE, Int.reduceLT, Int.reduceEq, Nat.reduceEqDiff, and_self, and_true, true_and, and_false, false_and, if_true, if_false, ne_eq, not_true_eq_false, not_false_eq_true, reduceCtorEq, eq_self, true_or, or_true, or_false, false_or, zbR_some, k1]
  by_cases h1 : 0 ≤ y ∧ y < w 18
  · rw [zb_t h1, if_neg (by decide)]
    by_cases h2 : v < 0
    · rw [if_pos h2]
    · rw [if_neg h2, if_neg (by omega)]
  · rw [zb_f h1, if_pos rfl]
set_option maxHeartbeats 1000000 in
theorem k_set {w : Nat → Int} {ls : List (List (Int × Int) × List (Int × Int))} (hV : VOk w ls) (d : Nat) (x y v : Int) (g : zG) (h : RdAt g 0 w ls) : ∃ g', EvM (d + 3) 28 [.inr (11, 0), .inl x, .inl y, .inl v] g = some (some (.inl (isW (aSet w x y v) 1 0)), g') ∧ OpAt g g' ls (aSet w x y v) := by
  have hX := hV.1.2.1
  have h7 := hV.1.1.2.2.2.2.2.2.2
  have h17 := hV.1.1.2.2.2.1
  obtain ⟨h0, h1, h2, h3, h4, h5⟩ := h
  have kw := k_weaken (d) 0 y (w 17) v g h0.1 h17.2
  have kf := k_fill (d) 0 y (w 17) v g h0.1 h17.2
  have kn := k_isNumber d v g
  unfold aSet
  by_cases x0 : x = 0
  · subst x0
    by_cases c : 0 ≤ v ∧ v ≤ 99
    · rw [if_pos ⟨rfl, c⟩]
      refine ⟨_, k_setY d 0 y v g (zU g 5 0 5 v) ?_, op_set ⟨?_, ?_, h2, ?_, ?_, ?_⟩ (Fr.u (by unfold sRd; omega))⟩
      · rw [en29]
        simp only [e29_0, e29_1_c0, e29_1_c1, e29_1_c2, e29_1_c3, e29_1_c4, e29_1_c5, e29_1_def, e29_40, e29_41, e29_42, e29_45, e29_46, e29_47, e29_50, e29_53, e29_54, e29_55, e29_58, e29_59, e29_60, e29_63, e29_66, e29_67, e29_68, e29_71, e29_72, e29_73, e29_76, e29_79, e29_80, e29_81, e29_84, e29_85, e29_86, e29_87, e29_90, e29_91, e29_92, e29_93, e29_96, e29_97, e29_98]
        rw [en30]
        simp (disch := omega) only [e30_0, e30_1, e30_4, e30_5, e30_7, e30_10, e30_11, e30_12, e30_13, e30_16, e30_17, e30_20, e30_21, zU_app, zbI_some, zbV_some, Int.reduceToNat, Int.reduceLE, Int.reduceLT, Int.reduceEq, Nat.reduceEqDiff, and_self, and_true, true_and, and_false, false_and, if_true, if_false, ne_eq, not_true_eq_false, not_false_eq_true, reduceCtorEq, eq_self, true_or, or_true, or_false, false_or, zbR_some, zwr_id, if_pos, if_neg]
        try simp only [e29_0, e29_1_c0, e29_1_c1, e29_1_c2, e29_1_c3, e29_1_c4, e29_1_c5, e29_1_def, e29_40, e29_41, e29_42, e29_45, e29_46, e29_47, e29_50, e29_53, e29_54, e29_55, e29_58, e29_59, e29_60, e29_63, e29_66, e29_67, e29_68, e29_71, e29_72, e29_73, e29_76, e29_79, e29_80, e29_81, e29_84, e29_85, e29_86, e29_87, e29_90, e29_91, e29_92, e29_93, e29_96, e29_97, e29_98, zU_app, zbI_some, zbV_some, Int.reduceToNat, Int.reduceLE, Int.reduceLT, Int.reduceEq, Nat.reduceEqDiff, and_self, and_true, true_and, and_false, false_and, if_true, if_false, ne_eq, not_true_eq_false, not_false_eq_true, reduceCtorEq, eq_self, true_or, or_true, or_false, false_or, zbR_some]
      · exact TbAt.cg (g := g) h0 (uW_ne (by omega)) (fun i hi => uW_ne (by omega)) h17.2
      · exact RuAt.cg (g := g) h1 hX (uW_ne (by omega)) (fun i q1 q2 => uW_ne (by omega))
      · rw [uW_eq]; rfl
      · exact CoAt.cg (g := g) h4 (fun i q1 q2 => uW_ne (by omega))
      · exact BkAt.cg (g := g) h5 (uW_ne (by omega)) h7.2 (fun i q1 q2 => uW_ne (by omega))
    · rw [if_neg (fun q => c q.2), if_neg (by omega), if_neg (by omega), if_neg (by omega), if_neg (by omega), if_neg (by omega)]
      refine ⟨g, k_setN d 0 y v g ?_, rfl⟩
      rw [en29]
      simp only [e29_0, e29_1_c0, e29_1_c1, e29_1_c2, e29_1_c3, e29_1_c4, e29_1_c5, e29_1_def, e29_40, e29_41, e29_42, e29_45, e29_46, e29_47, e29_50, e29_53, e29_54, e29_55, e29_58, e29_59, e29_60, e29_63, e29_66, e29_67, e29_68, e29_71, e29_72, e29_73, e29_76, e29_79, e29_80, e29_81, e29_84, e29_85, e29_86, e29_87, e29_90, e29_91, e29_92, e29_93, e29_96, e29_97, e29_98]
      rw [en30]
      simp only [e30_0, e30_1, e30_4, e30_5, e30_7, e30_10, e30_11, e30_12, e30_13, e30_16, e30_17, e30_20, e30_21, zU_app, zbI_some, zbV_some, Int.reduceToNat, Int.reduceLE, Int.reduceLT, Int.reduceEq, Nat.reduceEqDiff, and_self, and_true, true_and, and_false, false_and, if_true, if_false, ne_eq, not_true_eq_false, not_false_eq_true, reduceCtorEq, eq_self, true_or, or_true, or_false, false_or, zbR_some]
      by_cases q : v < 0
      · rw [if_pos q]; try simp only [e29_0, e29_1_c0, e29_1_c1, e29_1_c2, e29_1_c3, e29_1_c4, e29_1_c5, e29_1_def, e29_40, e29_41, e29_42, e29_45, e29_46, e29_47, e29_50, e29_53, e29_54, e29_55, e29_58, e29_59, e29_60, e29_63, e29_66, e29_67, e29_68, e29_71, e29_72, e29_73, e29_76, e29_79, e29_80, e29_81, e29_84, e29_85, e29_86, e29_87, e29_90, e29_91, e29_92, e29_93, e29_96, e29_97, e29_98, zU_app, zbI_some, zbV_some, Int.reduceToNat, Int.reduceLE, Int.reduceLT, Int.reduceEq, Nat.reduceEqDiff, and_self, and_true, true_and, and_false, false_and, if_true, if_false, ne_eq, not_true_eq_false, not_false_eq_true, reduceCtorEq, eq_self, true_or, or_true, or_false, false_or, zbR_some]
      · rw [if_neg q, if_neg (by omega)]; try simp only [e29_0, e29_1_c0, e29_1_c1, e29_1_c2, e29_1_c3, e29_1_c4, e29_1_c5, e29_1_def, e29_40, e29_41, e29_42, e29_45, e29_46, e29_47, e29_50, e29_53, e29_54, e29_55, e29_58, e29_59, e29_60, e29_63, e29_66, e29_67, e29_68, e29_71, e29_72, e29_73, e29_76, e29_79, e29_80, e29_81, e29_84, e29_85, e29_86, e29_87, e29_90, e29_91, e29_92, e29_93, e29_96, e29_97, e29_98, zU_app, zbI_some, zbV_some, Int.reduceToNat, Int.reduceLE, Int.reduceLT, Int.reduceEq, Nat.reduceEqDiff, and_self, and_true, true_and, and_false, false_and, if_true, if_false, ne_eq, not_true_eq_false, not_false_eq_true, reduceCtorEq, eq_self, true_or, or_true, or_false, false_or, zbR_some]
  · rw [if_neg (fun q => x0 q.1)]
    by_cases x1 : x = 1
    · subst x1
      by_cases c : (0 ≤ y ∧ y < w 18) ∧ 0 ≤ v ∧ v ≤ 1
      · rw [if_pos ⟨rfl, c⟩]
        obtain ⟨r, rfl⟩ : ∃ r : Nat, y = (r : Int) := ⟨y.toNat, by omega⟩
        rw [Int.toNat_natCast]
        obtain ⟨g1, e1, a1, f1⟩ := k_switch d 0 r v g h1 hX (by unfold nR; omega) (by omega)
        refine ⟨_, k_setY d 1 r v g g1 ?_, op_set ⟨?_, a1, ?_, ?_, ?_, ?_⟩ (f1.up (fun k a x q => by unfold sRd; omega))⟩
        · rw [en29]
          simp only [e29_0, e29_1_c0, e29_1_c1, e29_1_c2, e29_1_c3, e29_1_c4, e29_1_c5, e29_1_def, e29_40, e29_41, e29_42, e29_45, e29_46, e29_47, e29_50, e29_53, e29_54, e29_55, e29_58, e29_59, e29_60, e29_63, e29_66, e29_67, e29_68, e29_71, e29_72, e29_73, e29_76, e29_79, e29_80, e29_81, e29_84, e29_85, e29_86, e29_87, e29_90, e29_91, e29_92, e29_93, e29_96, e29_97, e29_98, zU_app, zbI_some, zbV_some, Int.reduceToNat, Int.reduceLE, Int.reduceLT, Int.reduceEq, Nat.reduceEqDiff, and_self, and_true, true_and, and_false, false_and, if_true, if_false, ne_eq, not_true_eq_false, not_false_eq_true, reduceCtorEq, eq_self, true_or, or_true, or_false, false_or, zbR_some, e1]
        · exact (h0.on (fun k x q => f1 k 0 x (by omega))).cg (uW_ne (by omega)) (fun i hi => uW_ne (by omega)) h17.2
        · exact h2.on (fun k x q => f1 k 0 x (by omega))
        · rw [f1 5 0 5 (by omega), uW_ne (by omega)]; exact h3
        · exact (h4.on (fun x => f1 1 0 x (by omega))).cg (fun i q1 q2 => uW_ne (by omega))
        · exact (h5.on (fun k x q => f1 k 0 x (by omega))).cg (uW_ne (by omega)) h7.2 (fun i q1 q2 => uW_ne (by have := hX.nr; unfold nR at this; omega))
      · rw [if_neg (fun q => c q.2), if_neg (by omega), if_neg (by omega), if_neg (by omega), if_neg (by omega)]
        refine ⟨g, k_setN d 1 y v g ?_, rfl⟩
        rw [en29]
        simp only [e29_0, e29_1_c0, e29_1_c1, e29_1_c2, e29_1_c3, e29_1_c4, e29_1_c5, e29_1_def, e29_40, e29_41, e29_42, e29_45, e29_46, e29_47, e29_50, e29_53, e29_54, e29_55, e29_58, e29_59, e29_60, e29_63, e29_66, e29_67, e29_68, e29_71, e29_72, e29_73, e29_76, e29_79, e29_80, e29_81, e29_84, e29_85, e29_86, e29_87, e29_90, e29_91, e29_92, e29_93, e29_96, e29_97, e29_98, zU_app, zbI_some, zbV_some, Int.reduceToNat, Int.reduceLE, Int.reduceLT, Int.reduceEq, Nat.reduceEqDiff, and_self, and_true, true_and, and_false, false_and, if_true, if_false, ne_eq, not_true_eq_false, not_false_eq_true, reduceCtorEq, eq_self, true_or, or_true, or_false, false_or, zbR_some, k_switchN _ 0 y v g h1 hX c]
    · rw [if_neg (fun q => x1 q.1)]
      by_cases x2 : x = 2
      · subst x2
        by_cases c : (0 ≤ y ∧ y < w 17) ∧ 0 ≤ v ∧ v ≤ 99
        · rw [if_pos ⟨rfl, c⟩]
          rw [if_pos c] at kw
          obtain ⟨r, rfl⟩ : ∃ r : Nat, y = (r : Int) := ⟨y.toNat, by omega⟩
          rw [Int.toNat_natCast] at kw ⊢
          refine ⟨_, k_setY d 2 r v g (zU g 39 0 r v) ?_, op_set ⟨⟨?_, ?_⟩, ?_, h2, ?_, ?_, ?_⟩ (Fr.u (by unfold sRd; omega))⟩
          · rw [en29]
            simp only [e29_0, e29_1_c0, e29_1_c1, e29_1_c2, e29_1_c3, e29_1_c4, e29_1_c5, e29_1_def, e29_40, e29_41, e29_42, e29_45, e29_46, e29_47, e29_50, e29_53, e29_54, e29_55, e29_58, e29_59, e29_60, e29_63, e29_66, e29_67, e29_68, e29_71, e29_72, e29_73, e29_76, e29_79, e29_80, e29_81, e29_84, e29_85, e29_86, e29_87, e29_90, e29_91, e29_92, e29_93, e29_96, e29_97, e29_98, zU_app, zbI_some, zbV_some, Int.reduceToNat, Int.reduceLE, Int.reduceLT, Int.reduceEq, Nat.reduceEqDiff, and_self, and_true, true_and, and_false, false_and, if_true, if_false, ne_eq, not_true_eq_false, not_false_eq_true, reduceCtorEq, eq_self, true_or, or_true, or_false, false_or, zbR_some, kw]
          · rw [uW_ne (by omega)]; exact h0.1
          · intro p hp
            rw [uW_ne (by omega)] at hp
            obtain ⟨t0, t1, t2, t3⟩ := h0.2 p hp
            rw [uW_ne (n := 9 + p) (by omega), uW_ne (n := 28 + p) (by omega)]
            refine ⟨?_, t1, t2, t3⟩
            by_cases z : p = r
            · subst z; rw [zU_eq, uW_eq]
            · rw [zU_ne (by omega), uW_ne (by omega)]; exact t0
          · exact RuAt.cg (g := g) h1 hX (uW_ne (by omega)) (fun i q1 q2 => uW_ne (by omega))
          · rw [uW_ne (by omega)]; exact h3
          · exact CoAt.cg (g := g) h4 (fun i q1 q2 => uW_ne (by omega))
          · exact BkAt.cg (g := g) h5 (uW_ne (by omega)) h7.2 (fun i q1 q2 => uW_ne (by omega))
        · rw [if_neg (fun q => c q.2), if_neg (by omega), if_neg (by omega), if_neg (by omega)]
          rw [if_neg c] at kw
          refine ⟨g, k_setN d 2 y v g ?_, rfl⟩
          rw [en29]
          simp only [e29_0, e29_1_c0, e29_1_c1, e29_1_c2, e29_1_c3, e29_1_c4, e29_1_c5, e29_1_def, e29_40, e29_41, e29_42, e29_45, e29_46, e29_47, e29_50, e29_53, e29_54, e29_55, e29_58, e29_59, e29_60, e29_63, e29_66, e29_67, e29_68, e29_71, e29_72, e29_73, e29_76, e29_79, e29_80, e29_81, e29_84, e29_85, e29_86, e29_87, e29_90, e29_91, e29_92, e29_93, e29_96, e29_97, e29_98, zU_app, zbI_some, zbV_some, Int.reduceToNat, Int.reduceLE, Int.reduceLT, Int.reduceEq, Nat.reduceEqDiff, and_self, and_true, true_and, and_false, false_and, if_true, if_false, ne_eq, not_true_eq_false, not_false_eq_true, reduceCtorEq, eq_self, true_or, or_true, or_false, false_or, zbR_some, kw]
      · rw [if_neg (fun q => x2 q.1)]
        by_cases x3 : x = 3
        · subst x3
          by_cases c : (0 ≤ y ∧ y < w 17) ∧ 0 ≤ v ∧ v ≤ 9999
          · rw [if_pos ⟨rfl, c⟩]
            rw [if_pos c] at kf
            obtain ⟨r, rfl⟩ : ∃ r : Nat, y = (r : Int) := ⟨y.toNat, by omega⟩
            rw [Int.toNat_natCast] at kf ⊢
            refine ⟨_, k_setY d 3 r v g (zU g 40 0 r v) ?_, op_set ⟨⟨?_, ?_⟩, ?_, h2, ?_, ?_, ?_⟩ (Fr.u (by unfold sRd; omega))⟩
            · rw [en29]
              simp only [e29_0, e29_1_c0, e29_1_c1, e29_1_c2, e29_1_c3, e29_1_c4, e29_1_c5, e29_1_def, e29_40, e29_41, e29_42, e29_45, e29_46, e29_47, e29_50, e29_53, e29_54, e29_55, e29_58, e29_59, e29_60, e29_63, e29_66, e29_67, e29_68, e29_71, e29_72, e29_73, e29_76, e29_79, e29_80, e29_81, e29_84, e29_85, e29_86, e29_87, e29_90, e29_91, e29_92, e29_93, e29_96, e29_97, e29_98, zU_app, zbI_some, zbV_some, Int.reduceToNat, Int.reduceLE, Int.reduceLT, Int.reduceEq, Nat.reduceEqDiff, and_self, and_true, true_and, and_false, false_and, if_true, if_false, ne_eq, not_true_eq_false, not_false_eq_true, reduceCtorEq, eq_self, true_or, or_true, or_false, false_or, zbR_some, kf]
            · rw [uW_ne (by omega)]; exact h0.1
            · intro p hp
              rw [uW_ne (by omega)] at hp
              obtain ⟨t0, t1, t2, t3⟩ := h0.2 p hp
              rw [uW_ne (n := 20 + p) (by omega), uW_ne (n := 28 + p) (by omega)]
              refine ⟨t0, ?_, t2, t3⟩
              by_cases z : p = r
              · subst z; rw [zU_eq, uW_eq]
              · rw [zU_ne (by omega), uW_ne (by omega)]; exact t1
            · exact RuAt.cg (g := g) h1 hX (uW_ne (by omega)) (fun i q1 q2 => uW_ne (by omega))
            · rw [uW_ne (by omega)]; exact h3
            · exact CoAt.cg (g := g) h4 (fun i q1 q2 => uW_ne (by omega))
            · exact BkAt.cg (g := g) h5 (uW_ne (by omega)) h7.2 (fun i q1 q2 => uW_ne (by omega))
          · rw [if_neg (fun q => c q.2), if_neg (by omega), if_neg (by omega)]
            rw [if_neg c] at kf
            refine ⟨g, k_setN d 3 y v g ?_, rfl⟩
            rw [en29]
            simp only [e29_0, e29_1_c0, e29_1_c1, e29_1_c2, e29_1_c3, e29_1_c4, e29_1_c5, e29_1_def, e29_40, e29_41, e29_42, e29_45, e29_46, e29_47, e29_50, e29_53, e29_54, e29_55, e29_58, e29_59, e29_60, e29_63, e29_66, e29_67, e29_68, e29_71, e29_72, e29_73, e29_76, e29_79, e29_80, e29_81, e29_84, e29_85, e29_86, e29_87, e29_90, e29_91, e29_92, e29_93, e29_96, e29_97, e29_98, zU_app, zbI_some, zbV_some, Int.reduceToNat, Int.reduceLE, Int.reduceLT, Int.reduceEq, Nat.reduceEqDiff, and_self, and_true, true_and, and_false, false_and, if_true, if_false, ne_eq, not_true_eq_false, not_false_eq_true, reduceCtorEq, eq_self, true_or, or_true, or_false, false_or, zbR_some, kf]
        · rw [if_neg (fun q => x3 q.1)]
          obtain ⟨c0, c1, c2, c3, c4, c5, c6, c7⟩ := h4
          by_cases x4 : x = 4
          · subst x4
            by_cases c : 1 ≤ v ∧ v ≤ 9999
            · rw [if_pos ⟨rfl, c⟩]
              rw [zb_t c] at kn
              refine ⟨_, k_setY d 4 y v g (zU g 1 0 0 v) ?_, op_set ⟨?_, ?_, h2, ?_, ?_, ?_⟩ (Fr.u (by unfold sRd; omega))⟩
              · rw [en29]
                simp only [e29_0, e29_1_c0, e29_1_c1, e29_1_c2, e29_1_c3, e29_1_c4, e29_1_c5, e29_1_def, e29_40, e29_41, e29_42, e29_45, e29_46, e29_47, e29_50, e29_53, e29_54, e29_55, e29_58, e29_59, e29_60, e29_63, e29_66, e29_67, e29_68, e29_71, e29_72, e29_73, e29_76, e29_79, e29_80, e29_81, e29_84, e29_85, e29_86, e29_87, e29_90, e29_91, e29_92, e29_93, e29_96, e29_97, e29_98]
                rw [en36]
                simp only [e36_0, e36_1, e36_4, e36_7, e36_8, e36_9, e36_10, e36_13, e36_16, e36_17, e36_20, e36_21, zU_app, zbI_some, zbV_some, Int.reduceToNat, Int.reduceLE, Int.reduceLT, Int.reduceEq, Nat.reduceEqDiff, and_self, and_true, true_and, and_false, false_and, if_true, if_false, ne_eq, not_true_eq_false, not_false_eq_true, reduceCtorEq, eq_self, true_or, or_true, or_false, false_or, zbR_some, kn]
                try simp only [e29_0, e29_1_c0, e29_1_c1, e29_1_c2, e29_1_c3, e29_1_c4, e29_1_c5, e29_1_def, e29_40, e29_41, e29_42, e29_45, e29_46, e29_47, e29_50, e29_53, e29_54, e29_55, e29_58, e29_59, e29_60, e29_63, e29_66, e29_67, e29_68, e29_71, e29_72, e29_73, e29_76, e29_79, e29_80, e29_81, e29_84, e29_85, e29_86, e29_87, e29_90, e29_91, e29_92, e29_93, e29_96, e29_97, e29_98, zU_app, zbI_some, zbV_some, Int.reduceToNat, Int.reduceLE, Int.reduceLT, Int.reduceEq, Nat.reduceEqDiff, and_self, and_true, true_and, and_false, false_and, if_true, if_false, ne_eq, not_true_eq_false, not_false_eq_true, reduceCtorEq, eq_self, true_or, or_true, or_false, false_or, zbR_some]
              · exact TbAt.cg (g := g) h0 (uW_ne (by omega)) (fun i hi => uW_ne (by omega)) h17.2
              · exact RuAt.cg (g := g) h1 hX (uW_ne (by omega)) (fun i q1 q2 => uW_ne (by omega))
              · rw [uW_ne (by omega)]; exact h3
              · exact ⟨rfl, c1, c2, c3, c4, c5, c6, c7⟩
              · exact BkAt.cg (g := g) h5 (uW_ne (by omega)) h7.2 (fun i q1 q2 => uW_ne (by omega))
            · rw [if_neg (fun q => c q.2), if_neg (by omega)]
              rw [zb_f c] at kn
              refine ⟨g, k_setN d 4 y v g ?_, rfl⟩
              rw [en29]
              simp only [e29_0, e29_1_c0, e29_1_c1, e29_1_c2, e29_1_c3, e29_1_c4, e29_1_c5, e29_1_def, e29_40, e29_41, e29_42, e29_45, e29_46, e29_47, e29_50, e29_53, e29_54, e29_55, e29_58, e29_59, e29_60, e29_63, e29_66, e29_67, e29_68, e29_71, e29_72, e29_73, e29_76, e29_79, e29_80, e29_81, e29_84, e29_85, e29_86, e29_87, e29_90, e29_91, e29_92, e29_93, e29_96, e29_97, e29_98]
              rw [en36]
              simp only [e36_0, e36_1, e36_4, e36_7, e36_8, e36_9, e36_10, e36_13, e36_16, e36_17, e36_20, e36_21, zU_app, zbI_some, zbV_some, Int.reduceToNat, Int.reduceLE, Int.reduceLT, Int.reduceEq, Nat.reduceEqDiff, and_self, and_true, true_and, and_false, false_and, if_true, if_false, ne_eq, not_true_eq_false, not_false_eq_true, reduceCtorEq, eq_self, true_or, or_true, or_false, false_or, zbR_some, kn]
              try simp only [e29_0, e29_1_c0, e29_1_c1, e29_1_c2, e29_1_c3, e29_1_c4, e29_1_c5, e29_1_def, e29_40, e29_41, e29_42, e29_45, e29_46, e29_47, e29_50, e29_53, e29_54, e29_55, e29_58, e29_59, e29_60, e29_63, e29_66, e29_67, e29_68, e29_71, e29_72, e29_73, e29_76, e29_79, e29_80, e29_81, e29_84, e29_85, e29_86, e29_87, e29_90, e29_91, e29_92, e29_93, e29_96, e29_97, e29_98, zU_app, zbI_some, zbV_some, Int.reduceToNat, Int.reduceLE, Int.reduceLT, Int.reduceEq, Nat.reduceEqDiff, and_self, and_true, true_and, and_false, false_and, if_true, if_false, ne_eq, not_true_eq_false, not_false_eq_true, reduceCtorEq, eq_self, true_or, or_true, or_false, false_or, zbR_some]
          · rw [if_neg (fun q => x4 q.1)]
            by_cases x5 : x = 5
            · subst x5
              by_cases c : 0 ≤ v ∧ v < w 17
              · rw [if_pos ⟨rfl, c⟩]
                refine ⟨_, k_setY d 5 y v g (zU g 1 0 1 v) ?_, op_set ⟨?_, ?_, h2, ?_, ?_, ?_⟩ (Fr.u (by unfold sRd; omega))⟩
                · rw [en29]
                  simp only [e29_0, e29_1_c0, e29_1_c1, e29_1_c2, e29_1_c3, e29_1_c4, e29_1_c5, e29_1_def, e29_40, e29_41, e29_42, e29_45, e29_46, e29_47, e29_50, e29_53, e29_54, e29_55, e29_58, e29_59, e29_60, e29_63, e29_66, e29_67, e29_68, e29_71, e29_72, e29_73, e29_76, e29_79, e29_80, e29_81, e29_84, e29_85, e29_86, e29_87, e29_90, e29_91, e29_92, e29_93, e29_96, e29_97, e29_98]
                  rw [en38]
                  simp (disch := omega) only [e38_0, e38_1, e38_4, e38_5, e38_6, e38_9, e38_12, e38_15, e38_18, e38_19, e38_20, e38_21, e38_24, e38_27, e38_28, e38_31, e38_32, zU_app, zbI_some, zbV_some, Int.reduceToNat, Int.reduceLE, Int.reduceLT, Int.reduceEq, Nat.reduceEqDiff, and_self, and_true, true_and, and_false, false_and, if_true, if_false, ne_eq, not_true_eq_false, not_false_eq_true, reduceCtorEq, eq_self, true_or, or_true, or_false, false_or, zbR_some, zwr_id, if_pos, if_neg, h0.1]
                  try simp only [e29_0, e29_1_c0, e29_1_c1, e29_1_c2, e29_1_c3, e29_1_c4, e29_1_c5, e29_1_def, e29_40, e29_41, e29_42, e29_45, e29_46, e29_47, e29_50, e29_53, e29_54, e29_55, e29_58, e29_59, e29_60, e29_63, e29_66, e29_67, e29_68, e29_71, e29_72, e29_73, e29_76, e29_79, e29_80, e29_81, e29_84, e29_85, e29_86, e29_87, e29_90, e29_91, e29_92, e29_93, e29_96, e29_97, e29_98, zU_app, zbI_some, zbV_some, Int.reduceToNat, Int.reduceLE, Int.reduceLT, Int.reduceEq, Nat.reduceEqDiff, and_self, and_true, true_and, and_false, false_and, if_true, if_false, ne_eq, not_true_eq_false, not_false_eq_true, reduceCtorEq, eq_self, true_or, or_true, or_false, false_or, zbR_some]
                · exact TbAt.cg (g := g) h0 (uW_ne (by omega)) (fun i hi => uW_ne (by omega)) h17.2
                · exact RuAt.cg (g := g) h1 hX (uW_ne (by omega)) (fun i q1 q2 => uW_ne (by omega))
                · rw [uW_ne (by omega)]; exact h3
                · exact ⟨c0, rfl, c2, c3, c4, c5, c6, c7⟩
                · exact BkAt.cg (g := g) h5 (uW_ne (by omega)) h7.2 (fun i q1 q2 => uW_ne (by omega))
              · rw [if_neg (fun q => c q.2)]
                refine ⟨g, k_setN d 5 y v g ?_, rfl⟩
                rw [en29]
                simp only [e29_0, e29_1_c0, e29_1_c1, e29_1_c2, e29_1_c3, e29_1_c4, e29_1_c5, e29_1_def, e29_40, e29_41, e29_42, e29_45, e29_46, e29_47, e29_50, e29_53, e29_54, e29_55, e29_58, e29_59, e29_60, e29_63, e29_66, e29_67, e29_68, e29_71, e29_72, e29_73, e29_76, e29_79, e29_80, e29_81, e29_84, e29_85, e29_86, e29_87, e29_90, e29_91, e29_92, e29_93, e29_96, e29_97, e29_98]
                rw [en38]
                simp only [e38_0, e38_1, e38_4, e38_5, e38_6, e38_9, e38_12, e38_15, e38_18, e38_19, e38_20, e38_21, e38_24, e38_27, e38_28, e38_31, e38_32, zU_app, zbI_some, zbV_some, Int.reduceToNat, Int.reduceLE, Int.reduceLT, Int.reduceEq, Nat.reduceEqDiff, and_self, and_true, true_and, and_false, false_and, if_true, if_false, ne_eq, not_true_eq_false, not_false_eq_true, reduceCtorEq, eq_self, true_or, or_true, or_false, false_or, zbR_some, h0.1]
                by_cases q : v < 0
                · rw [if_pos q]; try simp only [e29_0, e29_1_c0, e29_1_c1, e29_1_c2, e29_1_c3, e29_1_c4, e29_1_c5, e29_1_def, e29_40, e29_41, e29_42, e29_45, e29_46, e29_47, e29_50, e29_53, e29_54, e29_55, e29_58, e29_59, e29_60, e29_63, e29_66, e29_67, e29_68, e29_71, e29_72, e29_73, e29_76, e29_79, e29_80, e29_81, e29_84, e29_85, e29_86, e29_87, e29_90, e29_91, e29_92, e29_93, e29_96, e29_97, e29_98, zU_app, zbI_some, zbV_some, Int.reduceToNat, Int.reduceLE, Int.reduceLT, Int.reduceEq, Nat.reduceEqDiff, and_self, and_true, true_and, and_false, false_and, if_true, if_false, ne_eq, not_true_eq_false, not_false_eq_true, reduceCtorEq, eq_self, true_or, or_true, or_false, false_or, zbR_some]
                · rw [if_neg q, if_neg (by omega)]; try simp only [e29_0, e29_1_c0, e29_1_c1, e29_1_c2, e29_1_c3, e29_1_c4, e29_1_c5, e29_1_def, e29_40, e29_41, e29_42, e29_45, e29_46, e29_47, e29_50, e29_53, e29_54, e29_55, e29_58, e29_59, e29_60, e29_63, e29_66, e29_67, e29_68, e29_71, e29_72, e29_73, e29_76, e29_79, e29_80, e29_81, e29_84, e29_85, e29_86, e29_87, e29_90, e29_91, e29_92, e29_93, e29_96, e29_97, e29_98, zU_app, zbI_some, zbV_some, Int.reduceToNat, Int.reduceLE, Int.reduceLT, Int.reduceEq, Nat.reduceEqDiff, and_self, and_true, true_and, and_false, false_and, if_true, if_false, ne_eq, not_true_eq_false, not_false_eq_true, reduceCtorEq, eq_self, true_or, or_true, or_false, false_or, zbR_some]
            · rw [if_neg (fun q => x5 q.1)]
              refine ⟨g, k_setN d x y v g ?_, rfl⟩
              rw [en29]
              simp only [e29_0, e29_40, e29_41, e29_42, e29_45, e29_46, e29_47, e29_50, e29_53, e29_54, e29_55, e29_58, e29_59, e29_60, e29_63, e29_66, e29_67, e29_68, e29_71, e29_72, e29_73, e29_76, e29_79, e29_80, e29_81, e29_84, e29_85, e29_86, e29_87, e29_90, e29_91, e29_92, e29_93, e29_96, e29_97, e29_98]
              rw [e29_1_def _ _ _ _ (by omega)]
              simp only [e29_0, e29_40, e29_41, e29_42, e29_45, e29_46, e29_47, e29_50, e29_53, e29_54, e29_55, e29_58, e29_59, e29_60, e29_63, e29_66, e29_67, e29_68, e29_71, e29_72, e29_73, e29_76, e29_79, e29_80, e29_81, e29_84, e29_85, e29_86, e29_87, e29_90, e29_91, e29_92, e29_93, e29_96, e29_97, e29_98, zU_app, zbI_some, zbV_some, Int.reduceToNat, Int.reduceLE, Int.reduceLT, Int.reduceEq, Nat.reduceEqDiff, and_self, and_true, true_and, and_false, false_and, if_true, if_false, ne_eq, not_true_eq_false, not_false_eq_true, reduceCtorEq, eq_self, true_or, or_true, or_false, false_or, zbR_some]
