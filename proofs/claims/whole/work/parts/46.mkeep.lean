/-! the model: keeps, undo -/
def sHi : Nat → Nat → Nat → Prop := fun k j i => (k = 48 ∧ j = 0) ∨ (k = 12 ∧ j = 0 ∧ i = 3)
def HiAt (g : zG) (n : Nat) (f : Nat → Nat → Int) : Prop := g 12 0 3 = (n : Int) ∧ n ≤ 10 ∧ ∀ q, q < n → ∀ i, i < 17 → g 48 0 (17 * q + i) = f q i
def hiN (n : Nat) : Nat := if n = 10 then 10 else n + 1
def hiF (n : Nat) (f : Nat → Nat → Int) (w : Nat → Int) : Nat → Nat → Int := fun q => if q + 1 = hiN n then w else if n = 10 then f (q + 1) else f q
theorem m_keL1 (d : Nat) : ∀ (m i : Nat) (g : zG), i + m = 153 → ∃ g', Ev d 163 11 [some (.inr (12, 0)), some (.inl (i : Int))] [] g = Ev d 163 39 [some (.inr (12, 0)), some (.inl 153)] [] g' ∧ Fr (fun k j x => k = 48 ∧ j = 0 ∧ i ≤ x ∧ x < 153) g g' ∧ ∀ x, i ≤ x → x < 153 → g' 48 0 x = g 48 0 (x + 17) := by
  intro m
  induction m with
  | zero =>
    intro i g h
    refine ⟨g, ?_, Fr.rf, fun x h1 h2 => by omega⟩
    rw [e163_11]
    simp only [e163_0, e163_1, e163_4, e163_6, e163_9, e163_10, e163_12, e163_15, e163_18, e163_19, e163_22, e163_23, e163_24, e163_27, e163_28, e163_30, e163_31, e163_32, e163_33, e163_36, e163_40, e163_41, e163_44, e163_45, e163_46, e163_49, e163_50, e163_52, e163_54, e163_57, e163_58, e163_61, e163_63, e163_64, e163_67, e163_68, e163_69, e163_70, e163_71, e163_74, e163_75, e163_76, e163_77, e163_80, e163_83, e163_84, e163_85, e163_88, e163_89, e163_90, e163_93, zU_app, zbI_some, zbV_some, Int.reduceToNat, Int.reduceLE, Int.reduceLT, Int.reduceEq, Nat.reduceEqDiff, and_self, and_true, true_and, and_false, false_and, if_true, if_false, ne_eq, not_true_eq_false, not_false_eq_true, reduceCtorEq]
    rw [if_pos (by omega), show (i : Int) = 153 by omega]
  | succ m ih =>
    intro i g h
    obtain ⟨g', a1, a2, a3⟩ := ih (i + 1) (zU g 48 0 i (g 48 0 (i + 17))) (by omega)
    refine ⟨g', ?_, ?_, ?_⟩
    · rw [← a1, e163_11]
      simp only [e163_0, e163_1, e163_4, e163_6, e163_9, e163_10, e163_12, e163_15, e163_18, e163_19, e163_22, e163_23, e163_24, e163_27, e163_28, e163_30, e163_31, e163_32, e163_33, e163_36, e163_40, e163_41, e163_44, e163_45, e163_46, e163_49, e163_50, e163_52, e163_54, e163_57, e163_58, e163_61, e163_63, e163_64, e163_67, e163_68, e163_69, e163_70, e163_71, e163_74, e163_75, e163_76, e163_77, e163_80, e163_83, e163_84, e163_85, e163_88, e163_89, e163_90, e163_93, zU_app, zbI_some, zbV_some, Int.reduceToNat, Int.reduceLE, Int.reduceLT, Int.reduceEq, Nat.reduceEqDiff, and_self, and_true, true_and, and_false, false_and, if_true, if_false, ne_eq, not_true_eq_false, not_false_eq_true, reduceCtorEq]
      rw [if_neg (by omega), zwr_id (x := (i : Int) + 17) (by omega) (by omega), if_pos (by omega), if_pos (by omega), show ((i : Int) + 17).toNat = i + 17 by omega, Int.toNat_natCast, zwr_id (by omega) (by omega)]
      rfl
    · intro k j x hx
      rw [a2 k j x (by omega), zU_ne (by omega)]
    · intro x h1 h2
      by_cases e : x = i
      · subst e
        rw [a2 48 0 x (by omega), zU_eq]
      · rw [a3 x (by omega) h2, zU_ne (by omega)]
theorem m_keL2 (d n : Nat) (hn : n < 10) : ∀ (m i : Nat) (g : zG), i + m = 17 → g 12 0 3 = (n : Int) → ∃ g', Ev d 163 51 [some (.inr (12, 0)), some (.inl (i : Int))] [] g = Ev d 163 83 [some (.inr (12, 0)), some (.inl 17)] [] g' ∧ Fr (fun k j x => k = 48 ∧ j = 0 ∧ 17 * n + i ≤ x ∧ x < 17 * n + 17) g g' ∧ ∀ x, i ≤ x → x < 17 → g' 48 0 (17 * n + x) = g 46 0 x := by
  intro m
  induction m with
  | zero =>
    intro i g h hb
    refine ⟨g, ?_, Fr.rf, fun x h1 h2 => by omega⟩
    rw [e163_51]
    simp only [e163_0, e163_1, e163_4, e163_6, e163_9, e163_10, e163_12, e163_15, e163_18, e163_19, e163_22, e163_23, e163_24, e163_27, e163_28, e163_30, e163_31, e163_32, e163_33, e163_36, e163_39, e163_40, e163_41, e163_44, e163_45, e163_46, e163_49, e163_50, e163_52, e163_54, e163_57, e163_58, e163_61, e163_63, e163_64, e163_67, e163_68, e163_69, e163_70, e163_71, e163_74, e163_75, e163_76, e163_77, e163_80, e163_84, e163_85, e163_88, e163_89, e163_90, e163_93, zU_app, zbI_some, zbV_some, Int.reduceToNat, Int.reduceLE, Int.reduceLT, Int.reduceEq, Nat.reduceEqDiff, and_self, and_true, true_and, and_false, false_and, if_true, if_false, ne_eq, not_true_eq_false, not_false_eq_true, reduceCtorEq]
    rw [if_pos (by omega), show (i : Int) = 17 by omega]
  | succ m ih =>
    intro i g h hb
    obtain ⟨g', a1, a2, a3⟩ := ih (i + 1) (zU g 48 0 (17 * n + i) (g 46 0 i)) (by omega) (by rw [zU_ne (by omega)]; exact hb)
    refine ⟨g', ?_, ?_, ?_⟩
    · rw [← a1, e163_51]
      simp only [e163_0, e163_1, e163_4, e163_6, e163_9, e163_10, e163_12, e163_15, e163_18, e163_19, e163_22, e163_23, e163_24, e163_27, e163_28, e163_30, e163_31, e163_32, e163_33, e163_36, e163_39, e163_40, e163_41, e163_44, e163_45, e163_46, e163_49, e163_50, e163_52, e163_54, e163_57, e163_58, e163_61, e163_63, e163_64, e163_67, e163_68, e163_69, e163_70, e163_71, e163_74, e163_75, e163_76, e163_77, e163_80, e163_84, e163_85, e163_88, e163_89, e163_90, e163_93, zU_app, zbI_some, zbV_some, Int.reduceToNat, Int.reduceLE, Int.reduceLT, Int.reduceEq, Nat.reduceEqDiff, and_self, and_true, true_and, and_false, false_and, if_true, if_false, ne_eq, not_true_eq_false, not_false_eq_true, reduceCtorEq, hb]
      rw [if_neg (by omega), zwr_id (x := 17 * (n : Int)) (by omega) (by omega), zwr_id (x := 17 * (n : Int) + (i : Int)) (by omega) (by omega), if_pos (by omega), if_pos (by omega), show (17 * (n : Int) + (i : Int)).toNat = 17 * n + i by omega, Int.toNat_natCast, zwr_id (by omega) (by omega)]
      rfl
    · intro k j x hx
      rw [a2 k j x (by omega), zU_ne (by omega)]
    · intro x h1 h2
      by_cases e : x = i
      · subst e
        rw [a2 48 0 _ (by omega), zU_eq]
      · rw [a3 x (by omega) h2, zU_ne (by omega)]
theorem m_keeps (d n : Nat) (f : Nat → Nat → Int) (g : zG) (h : HiAt g n f) : ∃ g', EvM d 163 [.inr (12, 0)] g = some (none, g') ∧ HiAt g' (hiN n) (hiF n f (g 46 0)) ∧ Fr sHi g g' := by
  obtain ⟨h1, h2, h3⟩ := h
  rw [en163]
  by_cases hn : n = 10
  · subst hn
    obtain ⟨g1, a1, a2, a3⟩ := m_keL1 d 153 0 g (by omega)
    have e3 : g1 12 0 3 = 10 := by rw [a2 12 0 3 (by omega)]; exact h1
    obtain ⟨g2, b1, b2, b3⟩ := m_keL2 d 9 (by omega) 17 0 (zU g1 12 0 3 9) (by omega) (zU_eq _ _ _ _ _)
    have e2 : g2 12 0 3 = 9 := by rw [b2 12 0 3 (by omega), zU_eq]
    refine ⟨zU g2 12 0 3 10, ?_, ⟨zU_eq _ _ _ _ _, by decide, ?_⟩, ?_⟩
    · simp only [e163_0, e163_1, e163_4, e163_6, e163_9, e163_10, e163_12, e163_15, e163_18, e163_19, e163_22, e163_23, e163_24, e163_27, e163_28, e163_30, e163_31, e163_32, e163_33, e163_36, e163_39, e163_40, e163_41, e163_44, e163_45, e163_46, e163_49, e163_50, e163_52, e163_54, e163_57, e163_58, e163_61, e163_63, e163_64, e163_67, e163_68, e163_69, e163_70, e163_71, e163_74, e163_75, e163_76, e163_77, e163_80, e163_83, e163_84, e163_85, e163_88, e163_89, e163_90, e163_93, zU_app, zbI_some, zbV_some, Int.reduceToNat, Int.reduceLE, Int.reduceLT, Int.reduceEq, Nat.reduceEqDiff, and_self, and_true, true_and, and_false, false_and, if_true, if_false, ne_eq, not_true_eq_false, not_false_eq_true, reduceCtorEq, h1]
      have a1' : Ev d 163 11 [some (.inr (12, 0)), some (.inl 0)] [] g = _ := a1
      rw [a1']
      simp only [e163_0, e163_1, e163_4, e163_6, e163_9, e163_10, e163_12, e163_15, e163_18, e163_19, e163_22, e163_23, e163_24, e163_27, e163_28, e163_30, e163_31, e163_32, e163_33, e163_36, e163_39, e163_40, e163_41, e163_44, e163_45, e163_46, e163_49, e163_50, e163_52, e163_54, e163_57, e163_58, e163_61, e163_63, e163_64, e163_67, e163_68, e163_69, e163_70, e163_71, e163_74, e163_75, e163_76, e163_77, e163_80, e163_83, e163_84, e163_85, e163_88, e163_89, e163_90, e163_93, e3]
      have b1' : Ev d 163 51 [some (.inr (12, 0)), some (.inl 0)] [] (zU g1 12 0 3 (zwr (10 - 1))) = _ := b1
      rw [b1']
      simp only [e163_0, e163_1, e163_4, e163_6, e163_9, e163_10, e163_12, e163_15, e163_18, e163_19, e163_22, e163_23, e163_24, e163_27, e163_28, e163_30, e163_31, e163_32, e163_33, e163_36, e163_39, e163_40, e163_41, e163_44, e163_45, e163_46, e163_49, e163_50, e163_52, e163_54, e163_57, e163_58, e163_61, e163_63, e163_64, e163_67, e163_68, e163_69, e163_70, e163_71, e163_74, e163_75, e163_76, e163_77, e163_80, e163_83, e163_84, e163_85, e163_88, e163_89, e163_90, e163_93, e2]
      rfl
    · intro q hq i hi
      have hq : q < 10 := hq
      rw [zU_ne (by omega)]
      unfold hiF
      by_cases e : q = 9
      · subst e
        rw [if_pos (by decide), b3 i (by omega) hi, zU_ne (by omega), a2 46 0 i (by omega)]
      · rw [if_neg (by unfold hiN; rw [if_pos rfl]; omega), if_pos rfl, b2 48 0 _ (by omega), zU_ne (by omega), a3 _ (by omega) (by omega), show 17 * q + i + 17 = 17 * (q + 1) + i by omega]
        exact h3 (q + 1) (by omega) i hi
    · intro k j x hx
      have n1 : ¬ (k = 48 ∧ j = 0) := fun z => hx (Or.inl z)
      have n2 : ¬ (k = 12 ∧ j = 0 ∧ x = 3) := fun z => hx (Or.inr z)
      rw [zU_ne n2, b2 k j x (by omega), zU_ne n2, a2 k j x (by omega)]
  · obtain ⟨g2, b1, b2, b3⟩ := m_keL2 d n (by omega) 17 0 g (by omega) h1
    have e2 : g2 12 0 3 = n := by rw [b2 12 0 3 (by omega)]; exact h1
    have hN : hiN n = n + 1 := if_neg hn
    refine ⟨zU g2 12 0 3 ((n : Int) + 1), ?_, ⟨by rw [zU_eq, hN]; rfl, by omega, ?_⟩, ?_⟩
    · simp only [e163_0, e163_1, e163_4, e163_6, e163_9, e163_10, e163_12, e163_15, e163_18, e163_19, e163_22, e163_23, e163_24, e163_27, e163_28, e163_30, e163_31, e163_32, e163_33, e163_36, e163_39, e163_40, e163_41, e163_44, e163_45, e163_46, e163_49, e163_50, e163_52, e163_54, e163_57, e163_58, e163_61, e163_63, e163_64, e163_67, e163_68, e163_69, e163_70, e163_71, e163_74, e163_75, e163_76, e163_77, e163_80, e163_83, e163_84, e163_85, e163_88, e163_89, e163_90, e163_93, zU_app, zbI_some, zbV_some, Int.reduceToNat, Int.reduceLE, Int.reduceLT, Int.reduceEq, Nat.reduceEqDiff, and_self, and_true, true_and, and_false, false_and, if_true, if_false, ne_eq, not_true_eq_false, not_false_eq_true, reduceCtorEq, h1]
      rw [if_pos (by omega)]
      have b1' : Ev d 163 51 [some (.inr (12, 0)), some (.inl 0)] [] g = _ := b1
      rw [b1']
      simp only [e163_0, e163_1, e163_4, e163_6, e163_9, e163_10, e163_12, e163_15, e163_18, e163_19, e163_22, e163_23, e163_24, e163_27, e163_28, e163_30, e163_31, e163_32, e163_33, e163_36, e163_39, e163_40, e163_41, e163_44, e163_45, e163_46, e163_49, e163_50, e163_52, e163_54, e163_57, e163_58, e163_61, e163_63, e163_64, e163_67, e163_68, e163_69, e163_70, e163_71, e163_74, e163_75, e163_76, e163_77, e163_80, e163_83, e163_84, e163_85, e163_88, e163_89, e163_90, e163_93, e2]
      rw [zwr_id (by omega) (by omega)]
    · intro q hq i hi
      rw [hN] at hq
      rw [zU_ne (by omega)]
      unfold hiF
      rw [hN, if_neg hn]
      by_cases e : q = n
      · subst e
        rw [if_pos rfl, b3 i (by omega) hi]
      · rw [if_neg (by omega), b2 48 0 _ (by omega)]
        exact h3 q (by omega) i hi
    · intro k j x hx
      have n1 : ¬ (k = 48 ∧ j = 0) := fun z => hx (Or.inl z)
      have n2 : ¬ (k = 12 ∧ j = 0 ∧ x = 3) := fun z => hx (Or.inr z)
      rw [zU_ne n2, b2 k j x (by omega)]
theorem m_unL (d n : Nat) (hn : n < 10) (f : Nat → Int) : ∀ (m i : Nat) (g : zG) (w : Nat → Int), i + m = 17 → g 12 0 3 = (n : Int) → (∀ x, x < 17 → g 48 0 (17 * n + x) = f x) → ∃ w', Ev d 247 21 [some (.inr (12, 0)), some (.inl (i : Int))] [] (zRw g w) = some (some (.inl 1), zRw g w') ∧ ∀ x, w' x = if i ≤ x ∧ x < 17 then f x else w x := by
  intro m
  induction m with
  | zero =>
    intro i g w h hb hf
    refine ⟨w, ?_, fun x => by rw [if_neg (by omega)]⟩
    rw [e247_21]
    simp only [e247_0, e247_1, e247_4, e247_7, e247_8, e247_9, e247_10, e247_11, e247_14, e247_15, e247_16, e247_19, e247_20, e247_22, e247_24, e247_27, e247_28, e247_31, e247_32, e247_33, e247_36, e247_38, e247_39, e247_42, e247_43, e247_44, e247_45, e247_46, e247_47, e247_50, e247_53, e247_54, zU_app, zbI_some, zbV_some, Int.reduceToNat, Int.reduceLE, Int.reduceLT, Int.reduceEq, Nat.reduceEqDiff, and_self, and_true, true_and, and_false, false_and, if_true, if_false, ne_eq, not_true_eq_false, not_false_eq_true, reduceCtorEq]
    rw [if_pos (by omega)]
    simp
  | succ m ih =>
    intro i g w h hb hf
    obtain ⟨w', a1, a2⟩ := ih (i + 1) g (uW w i (f i)) (by omega) hb hf
    refine ⟨w', ?_, ?_⟩
    · have hb' : zRw g w 12 0 3 = (n : Int) := by rw [zRw_ne (by omega)]; exact hb
      have hf' : zRw g w 48 0 (17 * n + i) = f i := by rw [zRw_ne (by omega)]; exact hf i (by omega)
      rw [← a1, e247_21]
      simp only [e247_0, e247_1, e247_4, e247_7, e247_8, e247_9, e247_10, e247_11, e247_14, e247_15, e247_16, e247_19, e247_20, e247_22, e247_24, e247_27, e247_28, e247_31, e247_32, e247_33, e247_36, e247_38, e247_39, e247_42, e247_43, e247_44, e247_45, e247_46, e247_47, e247_50, e247_53, e247_54, zU_app, zbI_some, zbV_some, Int.reduceToNat, Int.reduceLE, Int.reduceLT, Int.reduceEq, Nat.reduceEqDiff, and_self, and_true, true_and, and_false, false_and, if_true, if_false, ne_eq, not_true_eq_false, not_false_eq_true, reduceCtorEq, hb']
      rw [if_neg (by omega), zwr_id (x := 17 * (n : Int)) (by omega) (by omega), zwr_id (x := 17 * (n : Int) + (i : Int)) (by omega) (by omega), if_pos (by omega), if_pos (by omega), show (17 * (n : Int) + (i : Int)).toNat = 17 * n + i by omega, Int.toNat_natCast, zwr_id (by omega) (by omega), hf', zU_zRw]
      rfl
    · intro x
      rw [a2 x]
      by_cases e : x = i
      · subst e
        rw [if_neg (by omega), if_pos (by omega), uW_eq]
      · rw [uW_ne e]
        by_cases e2 : i + 1 ≤ x ∧ x < 17
        · rw [if_pos e2, if_pos (by omega)]
        · rw [if_neg e2, if_neg (by omega)]
/-- the row before the last number -/
def unW (w : Nat → Int) (f : Nat → Int) : Nat → Int := fun x => if x < 17 then f x else w x
theorem m_undo0 (d : Nat) (g : zG) (h : g 12 0 3 = 0) : EvM d 247 [.inr (12, 0)] g = some (some (.inl 0), g) := by
  rw [en247]
  simp only [e247_0, e247_1, e247_4, e247_7, e247_8, e247_9, e247_10, e247_11, e247_14, e247_15, e247_16, e247_19, e247_20, e247_22, e247_24, e247_27, e247_28, e247_31, e247_32, e247_33, e247_36, e247_38, e247_39, e247_42, e247_43, e247_44, e247_45, e247_46, e247_47, e247_50, e247_53, e247_54, zU_app, zbI_some, zbV_some, Int.reduceToNat, Int.reduceLE, Int.reduceLT, Int.reduceEq, Nat.reduceEqDiff, and_self, and_true, true_and, and_false, false_and, if_true, if_false, ne_eq, not_true_eq_false, not_false_eq_true, reduceCtorEq, h]
  simp
theorem m_undo1 (d n : Nat) (f : Nat → Nat → Int) (g : zG) (h : HiAt g (n + 1) f) : ∃ g', EvM d 247 [.inr (12, 0)] g = some (some (.inl 1), g') ∧ HiAt g' n f ∧ g' 46 0 = unW (g 46 0) (f n) ∧ Fr (fun k j i => (k = 46 ∧ j = 0) ∨ (k = 12 ∧ j = 0 ∧ i = 3)) g g' := by
  obtain ⟨h1, h2, h3⟩ := h
  have r0 : zRw (zU g 12 0 3 (n : Int)) (g 46 0) = zU g 12 0 3 (n : Int) := by
    have : zU g 12 0 3 (n : Int) 46 0 = g 46 0 := zU_fn (by omega)
    rw [← this]
    exact zRw_self _
  obtain ⟨w', a1, a2⟩ := m_unL d n (by omega) (f n) 17 0 (zU g 12 0 3 (n : Int)) (g 46 0) (by omega) (zU_eq _ _ _ _ _) (fun x hx => by rw [zU_ne (by omega)]; exact h3 n (by omega) x hx)
  refine ⟨zRw (zU g 12 0 3 (n : Int)) w', ?_, ⟨?_, by omega, ?_⟩, ?_, ?_⟩
  · rw [← a1, en247, r0]
    simp only [e247_0, e247_1, e247_4, e247_7, e247_8, e247_9, e247_10, e247_11, e247_14, e247_15, e247_16, e247_19, e247_20, e247_22, e247_24, e247_27, e247_28, e247_31, e247_32, e247_33, e247_36, e247_38, e247_39, e247_42, e247_43, e247_44, e247_45, e247_46, e247_47, e247_50, e247_53, e247_54, zU_app, zbI_some, zbV_some, Int.reduceToNat, Int.reduceLE, Int.reduceLT, Int.reduceEq, Nat.reduceEqDiff, and_self, and_true, true_and, and_false, false_and, if_true, if_false, ne_eq, not_true_eq_false, not_false_eq_true, reduceCtorEq, h1]
    rw [if_pos (by omega), zwr_id (by omega) (by omega), show ((n + 1 : Nat) : Int) - 1 = n by omega]
    rfl
  · rw [zRw_ne (by omega), zU_eq]
  · intro q hq i hi
    rw [zRw_ne (by omega), zU_ne (by omega)]
    exact h3 q (by omega) i hi
  · rw [zRw_at]
    funext x
    rw [a2 x]
    unfold unW
    by_cases e : x < 17
    · rw [if_pos e, if_pos (by omega)]
    · rw [if_neg e, if_neg (by omega)]
  · intro k j i hx
    have n1 : ¬ (k = 46 ∧ j = 0) := fun z => hx (Or.inl z)
    have n2 : ¬ (k = 12 ∧ j = 0 ∧ i = 3) := fun z => hx (Or.inr z)
    rw [zRw_ne n1, zU_ne n2]
