/-! the model: image, feed -/
theorem LwOk.cg' {w w' : Nat → Int} (h : ∀ i, i < 1370 → w' i = w i) (hl : LwOk w) : LwOk w' := by
  unfold LwOk at *
  rw [h 485 (by omega)]
  refine ⟨hl.1, hl.2.1, fun i hi => ?_⟩
  have q := hl.2.2 i hi
  have ow : ∀ b e : Nat, e ≤ 400 → opW w' b e = opW w b e := fun b e he => by
    unfold opW
    apply List.map_congr_left
    intro k hk
    rw [List.mem_range] at hk
    rw [h _ (by omega), h _ (by omega)]
  rw [h (490 + i) (by omega), h (510 + i) (by omega), h (530 + i) (by omega), ow _ _ (by omega), ow _ _ (by omega)]
  exact q
theorem MOk.cg {w w' : Nat → Int} (h : ∀ i, i < 1370 → w' i = w i) (hM : MOk w) : MOk w' := by
  obtain ⟨a1, a2, a3, a4, a5, a6, a7, a8⟩ := hM
  have hl : Lik w (fun i => if i < 480 then w' i else w i) := ⟨by omega, fun i hi => by
    show (if i < 480 then w' i else w i) = w i
    split
    · exact h i (by omega)
    · rfl⟩
  refine ⟨?_, by rw [h 18 (by omega)]; exact a2, a3.cg' h, by rw [h 17 (by omega)]; exact a4, fun q => (a5 (by rw [← h 17 (by omega)]; exact q)).cg (h 17 (by omega)) (fun i hi => h _ (by omega)), a6.cg (h 17 (by omega)) (fun i hi => h i (by omega)), a7.cg (fun i hi => h _ (by omega)), by rw [h 6 (by omega)]; exact a8⟩
  have n7 : nR w ≤ 7 := by unfold nR; omega
  have nr : nR w' = nR w := by unfold nR; rw [h 18 (by omega)]
  unfold RuOk at *
  rw [nr, h 18 (by omega)]
  refine ⟨a1.1, a1.2.1, fun r hr => ?_⟩
  rw [h _ (by omega), h _ (by omega)]
  exact a1.2.2 r hr
theorem m_imT (d : Nat) (t : Int) (ht : t ≠ 0) : ∀ (m i : Nat) (g : zG), i + m = 1370 → ∃ g', Ev d 252 15 [some (.inr (12, 0)), some (.inl t), some (.inl (i : Int))] [] g = some (some (.inl 1), zU g' 12 0 4 1) ∧ Fr (fun k j x => k = 47 ∧ j = 0 ∧ i ≤ x) g g' ∧ ∀ x, i ≤ x → x < 1370 → g' 47 0 x = g 46 0 x := by
  intro m
  induction m with
  | zero =>
    intro i g h
    refine ⟨g, ?_, Fr.rf, fun x h1 h2 => by omega⟩
    rw [e252_15]
    simp only [e252_0, e252_1, e252_4, e252_5, e252_8, e252_11, e252_12, e252_13, e252_14, e252_16, e252_19, e252_22, e252_23, e252_26, e252_27, e252_30, e252_31, e252_32, e252_35, e252_36, e252_37, e252_38, e252_41, e252_42, e252_45, e252_46, e252_47, e252_50, e252_51, e252_52, e252_53, e252_56, e252_59, e252_60, e252_63, e252_64, e252_67, e252_68, e252_69, e252_72, e252_73, zU_app, zbI_some, zbV_some, Int.reduceToNat, Int.reduceLE, Int.reduceLT, Int.reduceEq, Nat.reduceEqDiff, and_self, and_true, true_and, and_false, false_and, if_true, if_false, ne_eq, not_true_eq_false, not_false_eq_true, reduceCtorEq]
    rw [if_pos (by omega), if_pos ht]
    simp
  | succ m ih =>
    intro i g h
    obtain ⟨g', a1, a2, a3⟩ := ih (i + 1) (zU g 47 0 i (g 46 0 i)) (by omega)
    refine ⟨g', ?_, ?_, ?_⟩
    · rw [← a1, e252_15]
      simp only [e252_0, e252_1, e252_4, e252_5, e252_8, e252_11, e252_12, e252_13, e252_14, e252_16, e252_19, e252_22, e252_23, e252_26, e252_27, e252_30, e252_31, e252_32, e252_35, e252_36, e252_37, e252_38, e252_41, e252_42, e252_45, e252_46, e252_47, e252_50, e252_51, e252_52, e252_53, e252_56, e252_59, e252_60, e252_63, e252_64, e252_67, e252_68, e252_69, e252_72, e252_73, zU_app, zbI_some, zbV_some, Int.reduceToNat, Int.reduceLE, Int.reduceLT, Int.reduceEq, Nat.reduceEqDiff, and_self, and_true, true_and, and_false, false_and, if_true, if_false, ne_eq, not_true_eq_false, not_false_eq_true, reduceCtorEq]
      rw [if_neg (by omega), if_neg ht, if_pos (by omega), if_pos (by omega), Int.toNat_natCast, zwr_id (by omega) (by omega)]
      rfl
    · intro k j x hx
      rw [a2 k j x (by omega), zU_ne (by omega)]
    · intro x h1 h2
      by_cases e : x = i
      · subst e
        rw [a2 47 0 x (by omega), zU_eq]
      · rw [a3 x (by omega) h2, zU_ne (by omega)]
theorem m_imF (d : Nat) : ∀ (m i : Nat) (g : zG) (w : Nat → Int), i + m = 1370 → ∃ w', Ev (d + 1) 252 15 [some (.inr (12, 0)), some (.inl 0), some (.inl (i : Int))] [] (zRw g w) = some (some (.inl 1), zU (zU (zRw g w') 12 0 3 0) 12 0 4 1) ∧ ∀ x, w' x = if i ≤ x ∧ x < 1370 then g 47 0 x else w x := by
  intro m
  induction m with
  | zero =>
    intro i g w h
    refine ⟨w, ?_, fun x => by rw [if_neg (by omega)]⟩
    rw [e252_15]
    simp only [e252_0, e252_1, e252_4, e252_5, e252_8, e252_11, e252_12, e252_13, e252_14, e252_16, e252_19, e252_22, e252_23, e252_26, e252_27, e252_30, e252_31, e252_32, e252_35, e252_36, e252_37, e252_38, e252_41, e252_42, e252_45, e252_46, e252_47, e252_50, e252_51, e252_52, e252_53, e252_56, e252_59, e252_60, e252_63, e252_64, e252_67, e252_68, e252_69, e252_72, e252_73, zU_app, zbI_some, zbV_some, Int.reduceToNat, Int.reduceLE, Int.reduceLT, Int.reduceEq, Nat.reduceEqDiff, and_self, and_true, true_and, and_false, false_and, if_true, if_false, ne_eq, not_true_eq_false, not_false_eq_true, reduceCtorEq, m_forgets]
    rw [if_pos (by omega)]
    simp
  | succ m ih =>
    intro i g w h
    obtain ⟨w', a1, a2⟩ := ih (i + 1) g (uW w i (g 47 0 i)) (by omega)
    refine ⟨w', ?_, ?_⟩
    · have hk : zRw g w 47 0 i = g 47 0 i := by rw [zRw_ne (by omega)]
      rw [← a1, e252_15]
      simp only [e252_0, e252_1, e252_4, e252_5, e252_8, e252_11, e252_12, e252_13, e252_14, e252_16, e252_19, e252_22, e252_23, e252_26, e252_27, e252_30, e252_31, e252_32, e252_35, e252_36, e252_37, e252_38, e252_41, e252_42, e252_45, e252_46, e252_47, e252_50, e252_51, e252_52, e252_53, e252_56, e252_59, e252_60, e252_63, e252_64, e252_67, e252_68, e252_69, e252_72, e252_73, zU_app, zbI_some, zbV_some, Int.reduceToNat, Int.reduceLE, Int.reduceLT, Int.reduceEq, Nat.reduceEqDiff, and_self, and_true, true_and, and_false, false_and, if_true, if_false, ne_eq, not_true_eq_false, not_false_eq_true, reduceCtorEq]
      rw [if_neg (by omega), if_pos (by omega), if_pos (by omega), Int.toNat_natCast, hk, zU_zRw, zwr_id (by omega) (by omega)]
      rfl
    · intro x
      rw [a2 x]
      by_cases e : x = i
      · subst e
        rw [if_neg (by omega), if_pos (by omega), uW_eq]
      · rw [uW_ne e]
        by_cases e2 : i + 1 ≤ x ∧ x < 1370
        · rw [if_pos e2, if_pos (by omega)]
        · rw [if_neg e2, if_neg (by omega)]
theorem m_imageT (d : Nat) (t : Int) (ht : t ≠ 0) (g : zG) : ∃ g', EvM (d + 1) 252 [.inr (12, 0), .inl t] g = some (some (.inl 1), g') ∧ Fr (fun k j i => (k = 47 ∧ j = 0) ∨ (k = 12 ∧ j = 0 ∧ i = 4)) g g' ∧ g' 12 0 4 = 1 ∧ ∀ x, x < 1370 → g' 47 0 x = g 46 0 x := by
  obtain ⟨g', a1, a2, a3⟩ := m_imT (d + 1) t ht 1370 0 g (by omega)
  refine ⟨zU g' 12 0 4 1, ?_, ?_, zU_eq _ _ _ _ _, fun x hx => by rw [zU_ne (by omega)]; exact a3 x (by omega) hx⟩
  · rw [← a1, en252]
    simp only [e252_0, e252_1, e252_4, e252_5, e252_8, e252_11, e252_12, e252_13, e252_14, e252_16, e252_19, e252_22, e252_23, e252_26, e252_27, e252_30, e252_31, e252_32, e252_35, e252_36, e252_37, e252_38, e252_41, e252_42, e252_45, e252_46, e252_47, e252_50, e252_51, e252_52, e252_53, e252_56, e252_59, e252_60, e252_63, e252_64, e252_67, e252_68, e252_69, e252_72, e252_73, zU_app, zbI_some, zbV_some, Int.reduceToNat, Int.reduceLE, Int.reduceLT, Int.reduceEq, Nat.reduceEqDiff, and_self, and_true, true_and, and_false, false_and, if_true, if_false, ne_eq, not_true_eq_false, not_false_eq_true, reduceCtorEq]
    rw [if_pos ht]
    rfl
  · intro k j i h
    have n1 : ¬ (k = 47 ∧ j = 0) := fun z => h (Or.inl z)
    have n2 : ¬ (k = 12 ∧ j = 0 ∧ i = 4) := fun z => h (Or.inr z)
    rw [zU_ne n2, a2 k j i (by omega)]
def imW (w k : Nat → Int) : Nat → Int := fun x => if x < 1370 then k x else w x
theorem m_imageF (d : Nat) (g : zG) (w : Nat → Int) (h : g 12 0 4 ≠ 0) : EvM (d + 1) 252 [.inr (12, 0), .inl 0] (zRw g w) = some (some (.inl 1), zU (zU (zRw g (imW w (g 47 0))) 12 0 3 0) 12 0 4 1) := by
  obtain ⟨w', a1, a2⟩ := m_imF d 1370 0 g w (by omega)
  have e : w' = imW w (g 47 0) := by
    funext x
    rw [a2 x]
    unfold imW
    by_cases e : x < 1370
    · rw [if_pos e, if_pos (by omega)]
    · rw [if_neg e, if_neg (by omega)]
  rw [← e, ← a1, en252]
  have h' : zRw g w 12 0 4 = g 12 0 4 := by rw [zRw_ne (by omega)]
  simp only [e252_0, e252_1, e252_4, e252_5, e252_8, e252_11, e252_12, e252_13, e252_14, e252_16, e252_19, e252_22, e252_23, e252_26, e252_27, e252_30, e252_31, e252_32, e252_35, e252_36, e252_37, e252_38, e252_41, e252_42, e252_45, e252_46, e252_47, e252_50, e252_51, e252_52, e252_53, e252_56, e252_59, e252_60, e252_63, e252_64, e252_67, e252_68, e252_69, e252_72, e252_73, zU_app, zbI_some, zbV_some, Int.reduceToNat, Int.reduceLE, Int.reduceLT, Int.reduceEq, Nat.reduceEqDiff, and_self, and_true, true_and, and_false, false_and, if_true, if_false, ne_eq, not_true_eq_false, not_false_eq_true, reduceCtorEq, h']
  rw [if_pos h]
  rfl
theorem m_imageN (d : Nat) (g : zG) (h : g 12 0 4 = 0) : EvM (d + 1) 252 [.inr (12, 0), .inl 0] g = some (some (.inl 0), g) := by
  rw [en252]
  simp only [e252_0, e252_1, e252_4, e252_5, e252_8, e252_11, e252_12, e252_13, e252_14, e252_16, e252_19, e252_22, e252_23, e252_26, e252_27, e252_30, e252_31, e252_32, e252_35, e252_36, e252_37, e252_38, e252_41, e252_42, e252_45, e252_46, e252_47, e252_50, e252_51, e252_52, e252_53, e252_56, e252_59, e252_60, e252_63, e252_64, e252_67, e252_68, e252_69, e252_72, e252_73, zU_app, zbI_some, zbV_some, Int.reduceToNat, Int.reduceLE, Int.reduceLT, Int.reduceEq, Nat.reduceEqDiff, and_self, and_true, true_and, and_false, false_and, if_true, if_false, ne_eq, not_true_eq_false, not_false_eq_true, reduceCtorEq, h]
  simp
