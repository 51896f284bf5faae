/-! THE CLASS: the orders are tried -/
def OrAt (g : zG) (l : List Nat) : Prop := ∀ i, i < l.length → g 37 0 i = (l.getD i 0 : Int)
theorem set_get {l : List Nat} {a x i : Nat} (ha : a < l.length) : (l.set a x).getD i 0 = if i = a then x else l.getD i 0 := by
  rw [List.getD_eq_getElem?_getD, List.getElem?_set]
  by_cases h : a = i
  · subst h
    rw [if_pos rfl, if_pos ha, if_pos rfl]
    rfl
  · rw [if_neg h, if_neg (Ne.symm h), ← List.getD_eq_getElem?_getD]
theorem exL_len (l : List Nat) (a b : Nat) : (exL l a b).length = l.length := by unfold exL; rw [List.length_set, List.length_set]
theorem k_exchange (d a b : Nat) (l : List Nat) (g : zG) (h : OrAt g l) (ha : a < l.length) (hb : b < l.length) (h6 : l.length ≤ 6) : ∃ g', EvM d 238 [.inr (7, 0), .inl (a : Int), .inl (b : Int)] g = some (none, g') ∧ OrAt g' (exL l a b) ∧ Fr (fun k j _ => k = 37 ∧ j = 0) g g' := by
  have h1 := h a ha
  have h2 := h b hb
  refine ⟨zU (zU g 37 0 a (l.getD b 0 : Int)) 37 0 b (l.getD a 0 : Int), ?_, ?_, (Fr.u ⟨rfl, rfl⟩).tr (Fr.u ⟨rfl, rfl⟩)⟩
  · rw [en238]
    simp (disch := omega) only [e238_0, e238_1, e238_4, e238_5, e238_7, e238_10, e238_11, e238_14, e238_15, e238_17, e238_20, e238_21, e238_24, e238_25, e238_26, e238_27, e238_28, e238_31, e238_32, e238_33, e238_36, e238_37, e238_38, e238_39, e238_40, e238_43, e238_44, e238_45, e238_46, zU_app, zbI_some, zbV_some, Int.reduceToNat, Int.reduceLE, Int.reduceLT, Int.reduceEq, Nat.reduceEqDiff, and_self, and_true, true_and, and_false, false_and, if_true, if_false, ne_eq, not_true_eq_false, not_false_eq_true, reduceCtorEq, eq_self, true_or, or_true, or_false, false_or, zbR_some, zwr_id, if_pos, if_neg, Int.toNat_natCast, h1, h2]
  · intro i hi
    rw [exL_len] at hi
    unfold exL
    rw [set_get (by rw [List.length_set]; exact hb), set_get ha]
    by_cases q1 : i = b
    · subst q1
      rw [if_pos rfl, zU_eq]
    · rw [if_neg q1, zU_ne (by omega)]
      by_cases q2 : i = a
      · subst q2
        rw [if_pos rfl, zU_eq]
      · rw [if_neg q2, zU_ne (by omega)]
        exact h i hi
theorem k_no1 (d : Nat) (l : List Nat) (n : Int) (u3 u4 u5 : Option zV) (g : zG) (h : OrAt g l) (h6 : l.length ≤ 6) : ∀ (k : Nat) (x : Int), x = (k : Int) - 1 → k < l.length → Ev d 237 4 [some (.inr (7, 0)), some (.inl n), some (.inl x), u3, u4, u5] [] g = Ev d 237 31 [some (.inr (7, 0)), some (.inl n), some (.inl ((loS l k : Int) - 1)), u3, u4, u5] [] g := by
  intro k
  induction k with
  | zero =>
    intro x hx hk
    subst hx
    rw [e237_4]
    simp only [e237_0, e237_1, e237_2, e237_3, e237_5, e237_8, e237_9, e237_12, e237_13, e237_14, e237_15, e237_18, e237_19, e237_20, e237_21, e237_22, e237_25, e237_28, e237_32, e237_35, e237_36, e237_37, e237_38, e237_39, e237_40, e237_42, e237_43, e237_46, e237_47, e237_50, e237_51, e237_52, e237_53, e237_56, e237_57, e237_58, e237_61, e237_64, e237_67, e237_68, e237_69, e237_70, e237_73, e237_74, e237_75, e237_76, e237_78, e237_79, e237_80, e237_81, e237_85, e237_87, e237_90, e237_91, e237_93, e237_95, e237_98, e237_101, e237_104, e237_107, e237_108, zU_app, zbI_some, zbV_some, Int.reduceToNat, Int.reduceLE, Int.reduceLT, Int.reduceEq, Nat.reduceEqDiff, and_self, and_true, true_and, and_false, false_and, if_true, if_false, ne_eq, not_true_eq_false, not_false_eq_true, reduceCtorEq, eq_self, true_or, or_true, or_false, false_or, zbR_some]
    rfl
  | succ k ih =>
    intro x hx hk
    have hx : x = (k : Int) := by omega
    subst hx
    have h1 := h k (by omega)
    have h2 := h (k + 1) hk
    have z1 : zwr ((k : Int) + 1) = ((k + 1 : Nat) : Int) := by rw [zwr_id (by omega) (by omega)]; omega
    have z2 : zwr ((k : Int) + -1) = (k : Int) - 1 := by rw [zwr_id (by omega) (by omega)]; omega
    rw [e237_4]
    simp only [e237_0, e237_1, e237_2, e237_3, e237_5, e237_8, e237_9, e237_12, e237_13, e237_14, e237_15, e237_18, e237_19, e237_20, e237_21, e237_22, e237_25, e237_28, e237_32, e237_35, e237_36, e237_37, e237_38, e237_39, e237_40, e237_42, e237_43, e237_46, e237_47, e237_50, e237_51, e237_52, e237_53, e237_56, e237_57, e237_58, e237_61, e237_64, e237_67, e237_68, e237_69, e237_70, e237_73, e237_74, e237_75, e237_76, e237_78, e237_79, e237_80, e237_81, e237_85, e237_87, e237_90, e237_91, e237_93, e237_95, e237_98, e237_101, e237_104, e237_107, e237_108, zU_app, zbI_some, zbV_some, Int.reduceToNat, Int.reduceLE, Int.reduceLT, Int.reduceEq, Nat.reduceEqDiff, and_self, and_true, true_and, and_false, false_and, if_true, if_false, ne_eq, not_true_eq_false, not_false_eq_true, reduceCtorEq, eq_self, true_or, or_true, or_false, false_or, zbR_some, z1, z2, Int.toNat_natCast, h1, h2]
    rw [if_neg (by omega), if_pos (by omega), if_pos (by omega), loS]
    by_cases q : l.getD (k + 1) 0 < l.getD k 0
    · rw [if_neg (by omega), if_pos q]
      exact ih _ rfl (by omega)
    · rw [if_pos (by omega), if_neg q, show ((k + 1 : Nat) : Int) - 1 = (k : Int) by omega]
theorem k_no2 (d lo : Nat) (l : List Nat) (n : Int) (u4 u5 : Option zV) (g : zG) (h : OrAt g l) (h6 : l.length ≤ 6) (hlo : lo < l.length) : ∀ (k : Nat), k < l.length → Ev d 237 41 [some (.inr (7, 0)), some (.inl n), some (.inl (lo : Int)), some (.inl (k : Int)), u4, u5] [] g = Ev d 237 67 [some (.inr (7, 0)), some (.inl n), some (.inl (lo : Int)), some (.inl (hiS l lo k : Int)), u4, u5] [] g := by
  intro k
  induction k with
  | zero =>
    intro hk
    rw [e237_41]
    simp (disch := omega) only [e237_0, e237_1, e237_2, e237_3, e237_5, e237_8, e237_9, e237_12, e237_13, e237_14, e237_15, e237_18, e237_19, e237_20, e237_21, e237_22, e237_25, e237_28, e237_31, e237_32, e237_35, e237_36, e237_37, e237_38, e237_39, e237_40, e237_42, e237_43, e237_46, e237_47, e237_50, e237_51, e237_52, e237_53, e237_56, e237_57, e237_58, e237_61, e237_64, e237_68, e237_69, e237_70, e237_73, e237_74, e237_75, e237_76, e237_78, e237_79, e237_80, e237_81, e237_85, e237_87, e237_90, e237_91, e237_93, e237_95, e237_98, e237_101, e237_104, e237_107, e237_108, zU_app, zbI_some, zbV_some, Int.reduceToNat, Int.reduceLE, Int.reduceLT, Int.reduceEq, Nat.reduceEqDiff, and_self, and_true, true_and, and_false, false_and, if_true, if_false, ne_eq, not_true_eq_false, not_false_eq_true, reduceCtorEq, eq_self, true_or, or_true, or_false, false_or, zbR_some, zwr_id, if_pos, if_neg]
    rfl
  | succ k ih =>
    intro hk
    have h1 := h lo hlo
    have h2 := h (k + 1) hk
    have z2 : zwr (((k + 1 : Nat) : Int) + -1) = (k : Int) := by rw [zwr_id (by omega) (by omega)]; omega
    rw [e237_41]
    simp only [e237_0, e237_1, e237_2, e237_3, e237_5, e237_8, e237_9, e237_12, e237_13, e237_14, e237_15, e237_18, e237_19, e237_20, e237_21, e237_22, e237_25, e237_28, e237_31, e237_32, e237_35, e237_36, e237_37, e237_38, e237_39, e237_40, e237_42, e237_43, e237_46, e237_47, e237_50, e237_51, e237_52, e237_53, e237_56, e237_57, e237_58, e237_61, e237_64, e237_68, e237_69, e237_70, e237_73, e237_74, e237_75, e237_76, e237_78, e237_79, e237_80, e237_81, e237_85, e237_87, e237_90, e237_91, e237_93, e237_95, e237_98, e237_101, e237_104, e237_107, e237_108, zU_app, zbI_some, zbV_some, Int.reduceToNat, Int.reduceLE, Int.reduceLT, Int.reduceEq, Nat.reduceEqDiff, and_self, and_true, true_and, and_false, false_and, if_true, if_false, ne_eq, not_true_eq_false, not_false_eq_true, reduceCtorEq, eq_self, true_or, or_true, or_false, false_or, zbR_some, z2, Int.toNat_natCast, h1, h2]
    rw [if_pos (show 0 ≤ ((k + 1 : Nat) : Int) ∧ ((k + 1 : Nat) : Int) < 6 by omega), if_pos (show 0 ≤ (lo : Int) ∧ (lo : Int) < 6 by omega), hiS]
    by_cases q1 : lo < k + 1
    · rw [if_neg (by omega)]
      by_cases q2 : l.getD (k + 1) 0 < l.getD lo 0
      · rw [if_neg (by omega), if_pos ⟨q1, q2⟩]
        exact ih (by omega)
      · rw [if_pos (by omega), if_neg (fun z => q2 z.2)]
    · rw [if_pos (by omega), if_neg (fun z => q1 z.1)]
theorem k_no3 (d : Nat) (n lo hi : Int) : ∀ (m a b : Nat) (l : List Nat) (g : zG), OrAt g l → l.length ≤ 6 → a ≤ l.length → b < l.length → b ≤ a + 2 * m → ∃ g', Ev (d + 1) 237 83 [some (.inr (7, 0)), some (.inl n), some (.inl lo), some (.inl hi), some (.inl (b : Int)), some (.inl (a : Int))] [] g = some (some (.inl 1), g') ∧ OrAt g' (rvS m l a b) ∧ Fr (fun k j _ => k = 37 ∧ j = 0) g g' := by
  intro m
  induction m with
  | zero =>
    intro a b l g h h6 ha hb hm
    refine ⟨g, ?_, h, Fr.rf⟩
    rw [e237_83]
    simp (disch := omega) only [e237_0, e237_1, e237_2, e237_3, e237_5, e237_8, e237_9, e237_12, e237_13, e237_14, e237_15, e237_18, e237_19, e237_20, e237_21, e237_22, e237_25, e237_28, e237_31, e237_32, e237_35, e237_36, e237_37, e237_38, e237_39, e237_40, e237_42, e237_43, e237_46, e237_47, e237_50, e237_51, e237_52, e237_53, e237_56, e237_57, e237_58, e237_61, e237_64, e237_67, e237_68, e237_69, e237_70, e237_73, e237_74, e237_75, e237_76, e237_78, e237_79, e237_80, e237_81, e237_85, e237_87, e237_90, e237_91, e237_93, e237_95, e237_98, e237_101, e237_104, e237_107, e237_108, zU_app, zbI_some, zbV_some, Int.reduceToNat, Int.reduceLE, Int.reduceLT, Int.reduceEq, Nat.reduceEqDiff, and_self, and_true, true_and, and_false, false_and, if_true, if_false, ne_eq, not_true_eq_false, not_false_eq_true, reduceCtorEq, eq_self, true_or, or_true, or_false, false_or, zbR_some, zwr_id, if_pos, if_neg]
  | succ m ih =>
    intro a b l g h h6 ha hb hm
    rw [e237_83]
    rw [rvS]
    by_cases q : a < b
    · obtain ⟨g1, e1, h1, f1⟩ := k_exchange d a b l g h (by omega) hb h6
      obtain ⟨g2, e2, h2, f2⟩ := ih (a + 1) (b - 1) (exL l a b) g1 h1 (by rw [exL_len]; exact h6) (by rw [exL_len]; omega) (by rw [exL_len]; omega) (by omega)
      refine ⟨g2, ?_, by rw [if_pos q]; exact h2, f1.tr f2⟩
      have z1 : zwr ((b : Int) + -1) = ((b - 1 : Nat) : Int) := by rw [zwr_id (by omega) (by omega)]; omega
      have z2 : zwr ((a : Int) + 1) = ((a + 1 : Nat) : Int) := by rw [zwr_id (by omega) (by omega)]; omega
      simp only [e237_0, e237_1, e237_2, e237_3, e237_5, e237_8, e237_9, e237_12, e237_13, e237_14, e237_15, e237_18, e237_19, e237_20, e237_21, e237_22, e237_25, e237_28, e237_31, e237_32, e237_35, e237_36, e237_37, e237_38, e237_39, e237_40, e237_42, e237_43, e237_46, e237_47, e237_50, e237_51, e237_52, e237_53, e237_56, e237_57, e237_58, e237_61, e237_64, e237_67, e237_68, e237_69, e237_70, e237_73, e237_74, e237_75, e237_76, e237_78, e237_79, e237_80, e237_81, e237_85, e237_87, e237_90, e237_91, e237_93, e237_95, e237_98, e237_101, e237_104, e237_107, e237_108, zU_app, zbI_some, zbV_some, Int.reduceToNat, Int.reduceLE, Int.reduceLT, Int.reduceEq, Nat.reduceEqDiff, and_self, and_true, true_and, and_false, false_and, if_true, if_false, ne_eq, not_true_eq_false, not_false_eq_true, reduceCtorEq, eq_self, true_or, or_true, or_false, false_or, zbR_some, e1, z1, z2]
      rw [if_neg (by omega)]
      exact e2
    · rw [if_neg q]
      refine ⟨g, ?_, h, Fr.rf⟩
      simp (disch := omega) only [e237_0, e237_1, e237_2, e237_3, e237_5, e237_8, e237_9, e237_12, e237_13, e237_14, e237_15, e237_18, e237_19, e237_20, e237_21, e237_22, e237_25, e237_28, e237_31, e237_32, e237_35, e237_36, e237_37, e237_38, e237_39, e237_40, e237_42, e237_43, e237_46, e237_47, e237_50, e237_51, e237_52, e237_53, e237_56, e237_57, e237_58, e237_61, e237_64, e237_67, e237_68, e237_69, e237_70, e237_73, e237_74, e237_75, e237_76, e237_78, e237_79, e237_80, e237_81, e237_85, e237_87, e237_90, e237_91, e237_93, e237_95, e237_98, e237_101, e237_104, e237_107, e237_108, zU_app, zbI_some, zbV_some, Int.reduceToNat, Int.reduceLE, Int.reduceLT, Int.reduceEq, Nat.reduceEqDiff, and_self, and_true, true_and, and_false, false_and, if_true, if_false, ne_eq, not_true_eq_false, not_false_eq_true, reduceCtorEq, eq_self, true_or, or_true, or_false, false_or, zbR_some, zwr_id, if_pos, if_neg]
theorem loS_le (l : List Nat) : ∀ k, loS l k ≤ k
  | 0 => Nat.le_refl _
  | k + 1 => by
    rw [loS]
    have := loS_le l k
    split <;> omega
theorem hiS_le (l : List Nat) (lo : Nat) : ∀ k, hiS l lo k ≤ k
  | 0 => Nat.le_refl _
  | k + 1 => by
    rw [hiS]
    have := hiS_le l lo k
    split <;> omega
theorem k_nextOrder (d n : Nat) (l : List Nat) (g : zG) (h : OrAt g l) (hl : l.length = n) (hn : 2 ≤ n ∧ n ≤ 6) : ∃ g', (∀ l', nxL n l = some l' → EvM (d + 1) 237 [.inr (7, 0), .inl (n : Int)] g = some (some (.inl 1), g') ∧ OrAt g' l') ∧ (nxL n l = none → EvM (d + 1) 237 [.inr (7, 0), .inl (n : Int)] g = some (some (.inl 0), g')) ∧ Fr (fun k j _ => k = 37 ∧ j = 0) g g' := by
  have z1 : zwr ((n : Int) - 2) = ((n - 1 : Nat) : Int) - 1 := by rw [zwr_id (by omega) (by omega)]; omega
  have e1 := k_no1 (d + 1) l n none none none g h (by omega) (n - 1) (((n - 1 : Nat) : Int) - 1) rfl (by omega)
  have e0 : EvM (d + 1) 237 [.inr (7, 0), .inl (n : Int)] g = Ev (d + 1) 237 31 [some (.inr (7, 0)), some (.inl (n : Int)), some (.inl ((loS l (n - 1) : Int) - 1)), none, none, none] [] g := by
    rw [← e1, en237]
    simp only [e237_0, e237_1, e237_2, e237_3, e237_5, e237_8, e237_9, e237_12, e237_13, e237_14, e237_15, e237_18, e237_19, e237_20, e237_21, e237_22, e237_25, e237_28, e237_32, e237_35, e237_36, e237_37, e237_38, e237_39, e237_40, e237_42, e237_43, e237_46, e237_47, e237_50, e237_51, e237_52, e237_53, e237_56, e237_57, e237_58, e237_61, e237_64, e237_68, e237_69, e237_70, e237_73, e237_74, e237_75, e237_76, e237_78, e237_79, e237_80, e237_81, e237_85, e237_87, e237_90, e237_91, e237_93, e237_95, e237_98, e237_101, e237_104, e237_107, e237_108, zU_app, zbI_some, zbV_some, Int.reduceToNat, Int.reduceLE, Int.reduceLT, Int.reduceEq, Nat.reduceEqDiff, and_self, and_true, true_and, and_false, false_and, if_true, if_false, ne_eq, not_true_eq_false, not_false_eq_true, reduceCtorEq, eq_self, true_or, or_true, or_false, false_or, zbR_some, z1]
  rw [e0]
  have hlo := loS_le l (n - 1)
  unfold nxL
  cases hc : loS l (n - 1) with
  | zero =>
    refine ⟨g, fun l' e => (by cases e), fun _ => ?_, Fr.rf⟩
    simp only [e237_0, e237_1, e237_2, e237_3, e237_5, e237_8, e237_9, e237_12, e237_13, e237_14, e237_15, e237_18, e237_19, e237_20, e237_21, e237_22, e237_25, e237_28, e237_31, e237_32, e237_35, e237_36, e237_37, e237_38, e237_39, e237_40, e237_42, e237_43, e237_46, e237_47, e237_50, e237_51, e237_52, e237_53, e237_56, e237_57, e237_58, e237_61, e237_64, e237_68, e237_69, e237_70, e237_73, e237_74, e237_75, e237_76, e237_78, e237_79, e237_80, e237_81, e237_85, e237_87, e237_90, e237_91, e237_93, e237_95, e237_98, e237_101, e237_104, e237_107, e237_108, zU_app, zbI_some, zbV_some, Int.reduceToNat, Int.reduceLE, Int.reduceLT, Int.reduceEq, Nat.reduceEqDiff, and_self, and_true, true_and, and_false, false_and, if_true, if_false, ne_eq, not_true_eq_false, not_false_eq_true, reduceCtorEq, eq_self, true_or, or_true, or_false, false_or, zbR_some]
    rfl
  | succ k =>
    rw [hc] at hlo
    have hh := hiS_le l k (n - 1)
    have z2 : zwr ((n : Int) - 1) = ((n - 1 : Nat) : Int) := by rw [zwr_id (by omega) (by omega)]; omega
    have z3 : zwr ((k : Int) + 1) = ((k + 1 : Nat) : Int) := by rw [zwr_id (by omega) (by omega)]; omega
    have e2 := k_no2 (d + 1) k l n none none g h (by omega) (by omega) (n - 1) (by omega)
    obtain ⟨g1, e3, h3, f3⟩ := k_exchange d k (hiS l k (n - 1)) l g h (by omega) (by omega) (by omega)
    obtain ⟨g2, e4, h4, f4⟩ := k_no3 d n k (hiS l k (n - 1)) 6 (k + 1) (n - 1) (exL l k (hiS l k (n - 1))) g1 h3 (by rw [exL_len]; omega) (by rw [exL_len]; omega) (by rw [exL_len]; omega) (by omega)
    refine ⟨g2, fun l' e => ?_, fun e => (by cases e), f3.tr f4⟩
    cases e
    refine ⟨?_, h4⟩
    rw [show ((k + 1 : Nat) : Int) - 1 = (k : Int) by omega]
    simp only [e237_0, e237_1, e237_2, e237_3, e237_5, e237_8, e237_9, e237_12, e237_13, e237_14, e237_15, e237_18, e237_19, e237_20, e237_21, e237_22, e237_25, e237_28, e237_31, e237_32, e237_35, e237_36, e237_37, e237_38, e237_39, e237_40, e237_42, e237_43, e237_46, e237_47, e237_50, e237_51, e237_52, e237_53, e237_56, e237_57, e237_58, e237_61, e237_64, e237_68, e237_69, e237_70, e237_73, e237_74, e237_75, e237_76, e237_78, e237_79, e237_80, e237_81, e237_85, e237_87, e237_90, e237_91, e237_93, e237_95, e237_98, e237_101, e237_104, e237_107, e237_108, zU_app, zbI_some, zbV_some, Int.reduceToNat, Int.reduceLE, Int.reduceLT, Int.reduceEq, Nat.reduceEqDiff, and_self, and_true, true_and, and_false, false_and, if_true, if_false, ne_eq, not_true_eq_false, not_false_eq_true, reduceCtorEq, eq_self, true_or, or_true, or_false, false_or, zbR_some, z2]
    rw [if_pos (by omega), e2]
    simp only [e237_0, e237_1, e237_2, e237_3, e237_5, e237_8, e237_9, e237_12, e237_13, e237_14, e237_15, e237_18, e237_19, e237_20, e237_21, e237_22, e237_25, e237_28, e237_31, e237_32, e237_35, e237_36, e237_37, e237_38, e237_39, e237_40, e237_42, e237_43, e237_46, e237_47, e237_50, e237_51, e237_52, e237_53, e237_56, e237_57, e237_58, e237_61, e237_64, e237_67, e237_68, e237_69, e237_70, e237_73, e237_74, e237_75, e237_76, e237_78, e237_79, e237_80, e237_81, e237_85, e237_87, e237_90, e237_91, e237_93, e237_95, e237_98, e237_101, e237_104, e237_107, e237_108, zU_app, zbI_some, zbV_some, Int.reduceToNat, Int.reduceLE, Int.reduceLT, Int.reduceEq, Nat.reduceEqDiff, and_self, and_true, true_and, and_false, false_and, if_true, if_false, ne_eq, not_true_eq_false, not_false_eq_true, reduceCtorEq, eq_self, true_or, or_true, or_false, false_or, zbR_some, e3, z2, z3]
    exact e4
theorem k_ciL {w : Nat → Int} (d n v : Nat) (l : List Nat) (bst : Int) (g : zG) (hP : 0 < w 17) (hw : w 17 = (n : Int)) (hn : n ≤ 6) (hv : v ≤ 60) (hL : LyAt g w n v) (hO : OrAt g l) (hl : l.length = n) (hx : ∀ x, x ∈ l → x < n) (hb : g 7 0 0 = bst) : ∀ (m k : Nat) (c : Int) (u4 u5 : Option zV), k + m = v → (0 ≤ c ∧ c ≤ 1000000) → ∃ c', Ev d 236 5 [some (.inr (7, 0)), some (.inl (v : Int)), some (.inl c), some (.inl (k : Int)), u4, u5] [] g = some (some (.inl c'), g) ∧ (bst < c' → c' = ciS w l m k c) ∧ (c' ≤ bst → ciS w l m k c ≤ bst) := by
  intro m
  induction m with
  | zero =>
    intro k c u4 u5 hk hc
    refine ⟨c, ?_, fun _ => rfl, fun h => h⟩
    rw [e236_5]
    simp (disch := omega) only [e236_0, e236_2, e236_3, e236_4, e236_6, e236_7, e236_10, e236_11, e236_13, e236_16, e236_17, e236_18, e236_21, e236_24, e236_25, e236_28, e236_29, e236_30, e236_32, e236_34, e236_37, e236_39, e236_41, e236_44, e236_45, e236_48, e236_50, e236_51, e236_54, e236_55, e236_57, e236_59, e236_62, e236_64, e236_66, e236_69, e236_70, e236_73, e236_74, e236_77, e236_78, e236_80, e236_81, e236_83, e236_84, e236_85, e236_86, e236_87, e236_90, e236_91, e236_92, e236_95, e236_98, e236_99, zU_app, zbI_some, zbV_some, Int.reduceToNat, Int.reduceLE, Int.reduceLT, Int.reduceEq, Nat.reduceEqDiff, and_self, and_true, true_and, and_false, false_and, if_true, if_false, ne_eq, not_true_eq_false, not_false_eq_true, reduceCtorEq, eq_self, true_or, or_true, or_false, false_or, zbR_some, zwr_id, if_pos, if_neg]
  | succ m ih =>
    intro k c u4 u5 hk hc
    by_cases hq : c ≤ bst
    · refine ⟨c, ?_, fun h => by omega, fun _ => ?_⟩
      · rw [e236_5]
        simp (disch := omega) only [e236_0, e236_2, e236_3, e236_4, e236_6, e236_7, e236_10, e236_11, e236_13, e236_16, e236_17, e236_18, e236_21, e236_24, e236_25, e236_28, e236_29, e236_30, e236_32, e236_34, e236_37, e236_39, e236_41, e236_44, e236_45, e236_48, e236_50, e236_51, e236_54, e236_55, e236_57, e236_59, e236_62, e236_64, e236_66, e236_69, e236_70, e236_73, e236_74, e236_77, e236_78, e236_80, e236_81, e236_83, e236_84, e236_85, e236_86, e236_87, e236_90, e236_91, e236_92, e236_95, e236_98, e236_99, zU_app, zbI_some, zbV_some, Int.reduceToNat, Int.reduceLE, Int.reduceLT, Int.reduceEq, Nat.reduceEqDiff, and_self, and_true, true_and, and_false, false_and, if_true, if_false, ne_eq, not_true_eq_false, not_false_eq_true, reduceCtorEq, eq_self, true_or, or_true, or_false, false_or, zbR_some, zwr_id, if_pos, if_neg, hb]
      · have := (ciS_le w l (m + 1) k c hc).2
        omega
    · obtain ⟨s1, s2⟩ := hL k (by omega)
      obtain ⟨-, hs, -⟩ := ly_ok (w := w) hP k (by omega)
      obtain ⟨s, es⟩ : ∃ s : Nat, (lyS w k).1 = (s : Int) := ⟨(lyS w k).1.toNat, by omega⟩
      have ho := hO s (by omega)
      have hp : l.getD s 0 < n := by
        have hi : s < l.length := by omega
        rw [List.getD_eq_getElem?_getD, List.getElem?_eq_getElem hi]
        exact hx _ (List.getElem_mem hi)
      have hod := s2 (l.getD s 0) hp
      have hor := odW_rng w (l.getD s 0) (k + 1) (lyS w k).2.2
      have hcj := chS_j hc hor
      have hcr := chS_rng hc hor
      rw [es] at s1
      have z1 : zwr ((k : Int) * 6) = (k : Int) * 6 := zwr_id (by omega) (by omega)
      have z2 : zwr ((k : Int) * 6 + (l.getD s 0 : Int)) = (k : Int) * 6 + (l.getD s 0 : Int) := zwr_id (by omega) (by omega)
      have z3 : ((k : Int) * 6 + (l.getD s 0 : Int)).toNat = 6 * k + l.getD s 0 := by omega
      have z4 : zwr ((k : Int) + 1) = ((k + 1 : Nat) : Int) := by rw [zwr_id (by omega) (by omega)]; omega
      obtain ⟨c', e1, h1, h2⟩ := ih (k + 1) (chS c (odW w (l.getD s 0) (k + 1) (lyS w k).2.2)) (some (.inl (s : Int))) (some (.inl (l.getD s 0 : Int))) (by omega) ⟨hcr.1, by omega⟩
      rw [ciS, es, Int.toNat_natCast]
      refine ⟨c', ?_, h1, h2⟩
      rw [← e1, e236_5]
      simp only [e236_0, e236_2, e236_3, e236_4, e236_6, e236_7, e236_10, e236_11, e236_13, e236_16, e236_17, e236_18, e236_21, e236_24, e236_25, e236_28, e236_29, e236_30, e236_32, e236_34, e236_37, e236_39, e236_41, e236_44, e236_45, e236_48, e236_50, e236_51, e236_54, e236_55, e236_57, e236_59, e236_62, e236_64, e236_66, e236_69, e236_70, e236_73, e236_74, e236_77, e236_78, e236_80, e236_81, e236_83, e236_84, e236_85, e236_86, e236_87, e236_90, e236_91, e236_92, e236_95, e236_98, e236_99, zU_app, zbI_some, zbV_some, Int.reduceToNat, Int.reduceLE, Int.reduceLT, Int.reduceEq, Nat.reduceEqDiff, and_self, and_true, true_and, and_false, false_and, if_true, if_false, ne_eq, not_true_eq_false, not_false_eq_true, reduceCtorEq, eq_self, true_or, or_true, or_false, false_or, zbR_some, hb, Int.toNat_natCast, s1, ho, z1, z2, z3, z4, hod, hcj]
      rw [if_neg (by omega), if_neg (by omega), if_neg (by omega), if_pos (by omega), if_neg (by omega), if_neg (by omega), if_pos (by omega), if_neg (by omega), if_neg (by omega), if_pos (by omega)]
