/-! THE CLASS: image -/
theorem k_tcopy (d i j : Nat) (g : zG) (hij : ¬ j = i) : ∃ g', EvM (d + 1) 250 [.inr (8, i), .inr (8, j)] g = some (none, g') ∧ g' 8 i 0 = g 8 j 0 ∧ (∀ k x, 39 ≤ k → k ≤ 42 → x < 8 → g' k i x = g k j x) ∧ Fr (fun k a _ => (k = 8 ∨ (39 ≤ k ∧ k ≤ 42)) ∧ a = i) g g' := by
  have c39 : ∀ d g, EvM d 999 [.inr (39, j), .inl 0, .inr (39, i), .inl 0, .inl 8] g = some (none, acU g 39 i j 8) := fun d g => k_ac d 39 i j 8 8 8 g (by decide) rfl (by decide)
  have c40 : ∀ d g, EvM d 999 [.inr (40, j), .inl 0, .inr (40, i), .inl 0, .inl 8] g = some (none, acU g 40 i j 8) := fun d g => k_ac d 40 i j 8 8 8 g (by decide) rfl (by decide)
  have c41 : ∀ d g, EvM d 999 [.inr (41, j), .inl 0, .inr (41, i), .inl 0, .inl 8] g = some (none, acU g 41 i j 8) := fun d g => k_ac d 41 i j 8 8 8 g (by decide) rfl (by decide)
  have c42 : ∀ d g, EvM d 999 [.inr (42, j), .inl 0, .inr (42, i), .inl 0, .inl 8] g = some (none, acU g 42 i j 8) := fun d g => k_ac d 42 i j 8 8 8 g (by decide) rfl (by decide)
  refine ⟨acU (acU (acU (acU (zU g 8 i 0 (g 8 j 0)) 39 i j 8) 40 i j 8) 41 i j 8) 42 i j 8, ?_, ?_, ?_, ?_⟩
  · rw [en250]
    simp only [e250_0, e250_1, e250_2, e250_5, e250_8, e250_9, e250_12, e250_13, e250_14, e250_17, e250_18, e250_20, e250_23, e250_24, e250_27, e250_28, e250_29, e250_32, e250_33, e250_35, e250_38, e250_39, e250_42, e250_43, e250_44, e250_47, e250_48, e250_50, e250_53, e250_54, e250_57, e250_58, e250_59, e250_62, e250_63, e250_65, e250_68, zU_app, zbI_some, zbV_some, Int.reduceToNat, Int.reduceLE, Int.reduceLT, Int.reduceEq, Nat.reduceEqDiff, and_self, and_true, true_and, and_false, false_and, if_true, if_false, ne_eq, not_true_eq_false, not_false_eq_true, reduceCtorEq, eq_self, true_or, or_true, or_false, false_or, zbR_some, c39, c40, c41, c42]
  · simp [acU_app, zU_app]
  · intro k x h1 h2 hx
    rcases (show k = 39 ∨ k = 40 ∨ k = 41 ∨ k = 42 by omega) with rfl | rfl | rfl | rfl <;> simp [acU_app, zU_app, hx]
  · exact ((((Fr.u (by omega)).tr (acU_fr (fun b => by omega))).tr (acU_fr (fun b => by omega))).tr (acU_fr (fun b => by omega))).tr (acU_fr (fun b => by omega))
theorem k_bcopy (d i j : Nat) (g : zG) (hij : ¬ j = i) : ∃ g', EvM (d + 1) 251 [.inr (0, i), .inr (0, j)] g = some (none, g') ∧ g' 0 i 0 = g 0 j 0 ∧ (∀ k x, 20 ≤ k → k ≤ 23 → x < 100 → g' k i x = g k j x) ∧ Fr (fun k a _ => (k = 0 ∨ (20 ≤ k ∧ k ≤ 23)) ∧ a = i) g g' := by
  have c20 : ∀ d g, EvM d 999 [.inr (20, j), .inl 0, .inr (20, i), .inl 0, .inl 100] g = some (none, acU g 20 i j 100) := fun d g => k_ac d 20 i j 100 100 100 g (by decide) rfl (by decide)
  have c21 : ∀ d g, EvM d 999 [.inr (21, j), .inl 0, .inr (21, i), .inl 0, .inl 100] g = some (none, acU g 21 i j 100) := fun d g => k_ac d 21 i j 100 100 100 g (by decide) rfl (by decide)
  have c22 : ∀ d g, EvM d 999 [.inr (22, j), .inl 0, .inr (22, i), .inl 0, .inl 100] g = some (none, acU g 22 i j 100) := fun d g => k_ac d 22 i j 100 100 100 g (by decide) rfl (by decide)
  have c23 : ∀ d g, EvM d 999 [.inr (23, j), .inl 0, .inr (23, i), .inl 0, .inl 100] g = some (none, acU g 23 i j 100) := fun d g => k_ac d 23 i j 100 100 100 g (by decide) rfl (by decide)
  refine ⟨acU (acU (acU (acU (zU g 0 i 0 (g 0 j 0)) 20 i j 100) 21 i j 100) 22 i j 100) 23 i j 100, ?_, ?_, ?_, ?_⟩
  · rw [en251]
    simp only [e251_0, e251_1, e251_2, e251_5, e251_8, e251_9, e251_12, e251_13, e251_14, e251_17, e251_18, e251_20, e251_23, e251_24, e251_27, e251_28, e251_29, e251_32, e251_33, e251_35, e251_38, e251_39, e251_42, e251_43, e251_44, e251_47, e251_48, e251_50, e251_53, e251_54, e251_57, e251_58, e251_59, e251_62, e251_63, e251_65, e251_68, zU_app, zbI_some, zbV_some, Int.reduceToNat, Int.reduceLE, Int.reduceLT, Int.reduceEq, Nat.reduceEqDiff, and_self, and_true, true_and, and_false, false_and, if_true, if_false, ne_eq, not_true_eq_false, not_false_eq_true, reduceCtorEq, eq_self, true_or, or_true, or_false, false_or, zbR_some, c20, c21, c22, c23]
  · simp [acU_app, zU_app]
  · intro k x h1 h2 hx
    rcases (show k = 20 ∨ k = 21 ∨ k = 22 ∨ k = 23 by omega) with rfl | rfl | rfl | rfl <;> simp [acU_app, zU_app, hx]
  · exact ((((Fr.u (by omega)).tr (acU_fr (fun b => by omega))).tr (acU_fr (fun b => by omega))).tr (acU_fr (fun b => by omega))).tr (acU_fr (fun b => by omega))
theorem k_lcopy {ls : List (List (Int × Int) × List (Int × Int))} (d i j : Nat) (g : zG) (hij : ¬ j = i) (hL : LcAt g j ls) : ∃ g', EvM (d + 1) 110 [.inr (3, i), .inr (3, j)] g = some (none, g') ∧ LcAt g' i ls ∧ Fr (fun k a x => ((k = 3 ∧ x < 3) ∨ k = 28) ∧ a = i) g g' := by
  have c28 : ∀ d g, EvM d 999 [.inr (28, j), .inl 0, .inr (28, i), .inl 0, .inl 400] g = some (none, acU g 28 i j 400) := fun d g => k_ac d 28 i j 400 400 400 g (by decide) rfl (by decide)
  obtain ⟨l0, ⟨l1, l2, l3, l4⟩, l5, l6⟩ := hL
  refine ⟨acU (zU (zU (zU g 3 i 0 (g 3 j 0)) 3 i 1 (g 3 j 1)) 3 i 2 (g 3 j 2)) 28 i j 400, ?_, ⟨?_, ⟨?_, l2, l3, ?_⟩, ?_, ?_⟩, ?_⟩
  · rw [en110]
    simp only [e110_0, e110_1, e110_2, e110_5, e110_8, e110_9, e110_10, e110_13, e110_16, e110_17, e110_18, e110_21, e110_24, e110_25, e110_28, e110_29, e110_30, e110_33, e110_34, e110_37, e110_40, zU_app, zbI_some, zbV_some, Int.reduceToNat, Int.reduceLE, Int.reduceLT, Int.reduceEq, Nat.reduceEqDiff, and_self, and_true, true_and, and_false, false_and, if_true, if_false, ne_eq, not_true_eq_false, not_false_eq_true, reduceCtorEq, eq_self, true_or, or_true, or_false, false_or, zbR_some, hij, c28]
    rw [if_pos l5]
  · rw [← l0]; simp [acU_app, zU_app]
  · rw [← l1]; simp [acU_app, zU_app]
  · intro q hq
    rw [← l4 q hq]
    simp [acU_app, zU_app, show q < 400 by omega]
  · rw [show acU (zU (zU (zU g 3 i 0 (g 3 j 0)) 3 i 1 (g 3 j 1)) 3 i 2 (g 3 j 2)) 28 i j 400 3 i 1 = g 3 j 1 by simp [acU_app, zU_app]]
    exact l5
  · rw [show acU (zU (zU (zU g 3 i 0 (g 3 j 0)) 3 i 1 (g 3 j 1)) 3 i 2 (g 3 j 2)) 28 i j 400 3 i 1 = g 3 j 1 by simp [acU_app, zU_app]]
    exact l6
  · exact (((Fr.u (by omega)).tr (Fr.u (by omega))).tr (Fr.u (by omega))).tr (acU_fr (fun b => by omega))
set_option maxHeartbeats 1000000 in
theorem k_rdcopy {w : Nat → Int} {ls : List (List (Int × Int) × List (Int × Int))} (hV : VOk w ls) (d i j : Nat) (g : zG) (hij : ¬ j = i) (h : RdAt g j w ls) : ∃ g', EvM (d + 2) 249 [.inr (5, i), .inr (5, j)] g = some (none, g') ∧ RdAt g' i w ls ∧ Fr (sRd i) g g' := by
  obtain ⟨h0, h1, h2, h3, h4, h5⟩ := h
  have h17 := hV.1.1.2.2.2.1
  have h6 := hV.1.1.2.2.2.2.2.2.2
  obtain ⟨g1, e1, a1, b1, f1⟩ := k_tcopy d i j g hij
  obtain ⟨g2, e2, b2, f2⟩ := k_rcopy d i j g1 hij
  have e3 := k_ccopy (d + 1) i j g2 hij
  obtain ⟨g4, e4, a4, b4, f4⟩ := k_bcopy d i j (cpC g2 i j) hij
  have f3 : Fr (fun k a _ => k = 1 ∧ a = i) g2 (cpC g2 i j) := fun k a x hk => cpC_ne hk
  have hL4 : LcAt g4 j ls := (((h2.on (fun k x q => f1 k j x (by omega))).on (fun k x q => f2 k j x (by unfold sRu; omega))).on (fun k x q => f3 k j x (by omega))).on (fun k x q => f4 k j x (by omega))
  obtain ⟨g5, e5, a5, f5⟩ := k_lcopy d i j g4 hij hL4
  have p5 : g5 5 j 5 = w 19 := by
    rw [f5 5 j 5 (by omega), f4 5 j 5 (by omega), f3 5 j 5 (by omega), f2 5 j 5 (by unfold sRu; omega), f1 5 j 5 (by omega)]
    exact h3
  have T5 : TbAt g5 i w := by
    have t1 : TbAt g1 i w := by
      refine ⟨by rw [a1]; exact h0.1, fun p hp => ?_⟩
      obtain ⟨t0, t1, t2, t3⟩ := h0.2 p hp
      have hs : (w (28 + p)).toNat < 8 := by
        have := (hV.1.1.2.2.2.2.1 (by omega)).2.2.1 p hp
        omega
      rw [b1 39 p (by omega) (by omega) (by omega), b1 40 p (by omega) (by omega) (by omega), b1 41 p (by omega) (by omega) (by omega), b1 42 _ (by omega) (by omega) hs]
      exact ⟨t0, t1, t2, t3⟩
    exact (((t1.on (fun k x q => f2 k i x (by unfold sRu; omega))).on (fun k x q => f3 k i x (by omega))).on (fun k x q => f4 k i x (by omega))).on (fun k x q => f5 k i x (by omega))
  have A5 : RuAt g5 i w := by
    have t2 : RuAt g2 i w := RuAt.cp hV.1.2.1 (h1.on (fun k x q => f1 k j x (by omega))) b2
    exact ((t2.on (fun k x q => f3 k i x (by omega))).on (fun k x q => f4 k i x (by omega))).on (fun k x q => f5 k i x (by omega))
  have C5 : CoAt g5 i w := by
    have t3 : CoAt (cpC g2 i j) i w := by
      have t0 : CoAt g2 j w := (h4.on (fun x => f1 1 j x (by omega))).on (fun x => f2 1 j x (by unfold sRu; omega))
      obtain ⟨c0, c1, c2, c3, c4, c5, c6, c7⟩ := t0
      unfold CoAt
      rw [cpC_at (by decide), cpC_at (by decide), cpC_at (by decide), cpC_at (by decide), cpC_at (by decide), cpC_at (by decide), cpC_at (by decide), cpC_at (by decide)]
      exact ⟨c0, c1, c2, c3, c4, c5, c6, c7⟩
    exact (t3.on (fun x => f4 1 i x (by omega))).on (fun x => f5 1 i x (by omega))
  have B5 : BkAt g5 i w := by
    have t0 : BkAt (cpC g2 i j) j w := ((h5.on (fun k x q => f1 k j x (by omega))).on (fun k x q => f2 k j x (by unfold sRu; omega))).on (fun k x q => f3 k j x (by omega))
    have t4 : BkAt g4 i w := by
      refine ⟨by rw [a4]; exact t0.1, fun q hq => ?_⟩
      rw [b4 20 q (by omega) (by omega) (by omega), b4 21 q (by omega) (by omega) (by omega), b4 22 q (by omega) (by omega) (by omega), b4 23 q (by omega) (by omega) (by omega)]
      exact t0.2 q hq
    exact t4.on (fun k x q => f5 k i x (by omega))
  refine ⟨zU g5 5 i 5 (w 19), ?_, ⟨T5, A5, a5, zU_eq _ _ _ _ _, C5, B5⟩, ?_⟩
  · rw [en249]
    simp only [e249_0, e249_1, e249_4, e249_5, e249_8, e249_11, e249_12, e249_15, e249_16, e249_19, e249_22, e249_23, e249_26, e249_27, e249_30, e249_33, e249_34, e249_37, e249_38, e249_41, e249_44, e249_45, e249_48, e249_49, e249_52, e249_55, e249_56, e249_57, e249_60, e249_63, zU_app, zbI_some, zbV_some, Int.reduceToNat, Int.reduceLE, Int.reduceLT, Int.reduceEq, Nat.reduceEqDiff, and_self, and_true, true_and, and_false, false_and, if_true, if_false, ne_eq, not_true_eq_false, not_false_eq_true, reduceCtorEq, eq_self, true_or, or_true, or_false, false_or, zbR_some, e1, e2, e3, e4, e5, p5]
  · exact (((((f1.up (fun k a x q => by unfold sRd; omega)).tr (f2.up (fun k a x q => by unfold sRu at q; unfold sRd; omega))).tr (f3.up (fun k a x q => by unfold sRd; omega))).tr (f4.up (fun k a x q => by unfold sRd; omega))).tr (f5.up (fun k a x q => by unfold sRd; omega))).tr (Fr.u (by unfold sRd; omega))
theorem k_imageT {w : Nat → Int} {ls : List (List (Int × Int) × List (Int × Int))} (hV : VOk w ls) (d : Nat) (x : Int) (hx : x ≠ 0) (g : zG) (h : RdAt g 0 w ls) : ∃ g', EvM (d + 3) 248 [.inr (11, 0), .inl x] g = some (some (.inl 1), g') ∧ RdAt g' 1 w ls ∧ g' 11 0 2 = 1 ∧ Fr (fun k a x => sRd 1 k a x ∨ (k = 11 ∧ a = 0 ∧ x = 2)) g g' := by
  obtain ⟨g1, e1, r1, f1⟩ := k_rdcopy hV d 1 0 g (by decide) h
  refine ⟨zU g1 11 0 2 1, ?_, r1.on (fun k a x q => zU_ne (by unfold sRd at q; omega)), rfl, (f1.up (fun k a x q => Or.inl q)).tr (Fr.u (Or.inr ⟨rfl, rfl, rfl⟩))⟩
  rw [en248]
  simp only [e248_0, e248_1, e248_4, e248_5, e248_8, e248_9, e248_12, e248_15, e248_16, e248_17, e248_20, e248_21, e248_22, e248_23, e248_26, e248_29, e248_30, e248_31, e248_32, e248_35, e248_36, e248_39, e248_42, e248_43, e248_46, e248_49, e248_50, zU_app, zbI_some, zbV_some, Int.reduceToNat, Int.reduceLE, Int.reduceLT, Int.reduceEq, Nat.reduceEqDiff, and_self, and_true, true_and, and_false, false_and, if_true, if_false, ne_eq, not_true_eq_false, not_false_eq_true, reduceCtorEq, eq_self, true_or, or_true, or_false, false_or, zbR_some, e1]
  rw [if_neg hx]
theorem k_imageF {kw : Nat → Int} {kl : List (List (Int × Int) × List (Int × Int))} (hV : VOk kw kl) (d : Nat) (g : zG) (h : RdAt g 1 kw kl) (hk : g 11 0 2 = 1) : ∃ g', EvM (d + 3) 248 [.inr (11, 0), .inl 0] g = some (some (.inl 1), g') ∧ RdAt g' 0 kw kl ∧ g' 2 0 0 = 0 ∧ Fr sMu g g' := by
  obtain ⟨g1, e1, r1, f1⟩ := k_rdcopy hV d 0 1 g (by decide) h
  refine ⟨zU g1 2 0 0 0, ?_, r1.hi 0 0, rfl, (f1.up (fun k a x q => Or.inl q)).tr (Fr.u (Or.inr ⟨rfl, rfl, rfl⟩))⟩
  rw [en248]
  simp only [e248_0, e248_1, e248_4, e248_5, e248_8, e248_9, e248_12, e248_15, e248_16, e248_17, e248_20, e248_21, e248_22, e248_23, e248_26, e248_29, e248_30, e248_31, e248_32, e248_35, e248_36, e248_39, e248_42, e248_43, e248_46, e248_49, e248_50, zU_app, zbI_some, zbV_some, Int.reduceToNat, Int.reduceLE, Int.reduceLT, Int.reduceEq, Nat.reduceEqDiff, and_self, and_true, true_and, and_false, false_and, if_true, if_false, ne_eq, not_true_eq_false, not_false_eq_true, reduceCtorEq, eq_self, true_or, or_true, or_false, false_or, zbR_some, hk, e1, k_forget]
theorem k_imageN (d : Nat) (g : zG) (hk : g 11 0 2 = 0) : EvM (d + 3) 248 [.inr (11, 0), .inl 0] g = some (some (.inl 0), g) := by
  rw [en248]
  simp only [e248_0, e248_1, e248_4, e248_5, e248_8, e248_9, e248_12, e248_15, e248_16, e248_17, e248_20, e248_21, e248_22, e248_23, e248_26, e248_29, e248_30, e248_31, e248_32, e248_35, e248_36, e248_39, e248_42, e248_43, e248_46, e248_49, e248_50, zU_app, zbI_some, zbV_some, Int.reduceToNat, Int.reduceLE, Int.reduceLT, Int.reduceEq, Nat.reduceEqDiff, and_self, and_true, true_and, and_false, false_and, if_true, if_false, ne_eq, not_true_eq_false, not_false_eq_true, reduceCtorEq, eq_self, true_or, or_true, or_false, false_or, zbR_some, hk]
/-- rows alike as far as they go -/
theorem LwAt.cg2 {w w' : Nat → Int} {ls : List (List (Int × Int) × List (Int × Int))} (hl : LsOk ls) (h : LwAt w ls) (hw : ∀ i, 480 ≤ i → i < 1370 → w' i = w i) : LwAt w' ls := by
  obtain ⟨h1, h2, h3⟩ := h
  have l1 := hl.2.1
  have l2 := hl.2.2
  refine ⟨by rw [hw 485 (by omega) (by omega)]; exact h1, fun k hk => ?_, fun i hi => ?_⟩
  · rw [hw _ (by omega) (by omega), hw _ (by omega) (by omega), hw _ (by omega) (by omega)]
    exact h2 k hk
  · rw [hw _ (by omega) (by omega), hw _ (by omega) (by omega)]
    exact h3 i hi
theorem VOk.cg2 {w w' : Nat → Int} {ls : List (List (Int × Int) × List (Int × Int))} (h : VOk w ls) (hw : ∀ i, i < 1370 → w' i = w i) : VOk w' ls := ⟨⟨h.1.1.cg hw, h.1.2.1.cg (hw 18 (by omega)) (fun i q1 q2 => hw i (by omega)), h.1.2.2.1.cg2 h.1.2.2.2 (fun i q1 q2 => hw i q2), h.1.2.2.2⟩, by rw [hw 17 (by omega), hw 1 (by omega)]; exact h.2⟩
theorem RdAt.cg2 {g : zG} {j : Nat} {w w' : Nat → Int} {ls : List (List (Int × Int) × List (Int × Int))} (hV : VOk w ls) (h : RdAt g j w ls) (hw : ∀ i, i < 1370 → w' i = w i) : RdAt g j w' ls := by
  obtain ⟨h0, h1, h2, h3, h4, h5⟩ := h
  exact ⟨h0.cg (hw 17 (by omega)) (fun i hi => hw i (by omega)) hV.1.1.2.2.2.1.2, h1.cg hV.1.2.1 (hw 18 (by omega)) (fun i q1 q2 => hw i (by omega)), h2, by rw [hw 19 (by omega)]; exact h3, h4.cg (fun i q1 q2 => hw i (by omega)), h5.cg (hw 6 (by omega)) hV.1.1.2.2.2.2.2.2.2.2 (fun i q1 q2 => hw i (by omega))⟩
