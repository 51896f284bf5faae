/-! the model: of, behind, rules, third, fewest -/
def aOf (w : Nat → Int) (p x : Int) : Int := if 0 ≤ p ∧ p < w 17 then (if x = 0 then w (20 + p.toNat) else if x = 1 then w (9 + p.toNat) else if x = 2 then w (28 + p.toNat) else if x = 3 then odW w p.toNat (w 0).toNat (w 3) else -1) else -1
theorem m_of {w : Nat → Int} (hR : RuOk w) (hL : LwOk w) (h17 : 0 ≤ w 17 ∧ w 17 ≤ 8) (hN : NoOk w) (d : Nat) (p x : Int) (g : zG) (hw : g 46 0 = w) : ∃ g', EvM (d + 4) 183 [.inr (12, 0), .inl p, .inl x] g = some (some (.inl (aOf w p x)), g') ∧ Fr sCur g g' := by
  have hi := m_isPerson (d + 2) p g (by rw [hw]; omega)
  rw [hw] at hi
  unfold aOf
  by_cases h1 : 0 ≤ p ∧ p < w 17
  · rw [zb_t h1] at hi
    obtain ⟨q, hq⟩ : ∃ q : Nat, p = (q : Int) := ⟨p.toNat, by omega⟩
    subst hq
    have start : EvM (d + 4) 183 [.inr (12, 0), .inl (q : Int), .inl x] g = Ev (d + 4) 183 11 [some (.inr (12, 0)), some (.inl (q : Int)), some (.inl x)] [.inl x] g := by
      rw [en183]
      simp only [e183_0, e183_1, e183_2, e183_5, e183_8, e183_9, e183_10, e183_40, e183_41, e183_44, e183_46, e183_47, e183_48, e183_49, e183_50, e183_51, e183_54, e183_56, e183_57, e183_58, e183_59, e183_60, e183_61, e183_64, e183_66, e183_67, e183_68, e183_69, e183_70, e183_71, e183_74, e183_75, e183_76, e183_79, e183_80, e183_81, hi, zU_app, zbI_some, zbV_some, Int.reduceToNat, Int.reduceLE, Int.reduceLT, Int.reduceEq, Nat.reduceEqDiff, and_self, and_true, true_and, and_false, false_and, if_true, if_false, ne_eq, not_true_eq_false, not_false_eq_true, reduceCtorEq]
    rw [if_pos h1, start]
    simp only [Int.toNat_natCast]
    by_cases hx : x < 0 ∨ 3 < x
    · refine ⟨g, ?_, Fr.rf⟩
      rw [e183_11_def _ _ _ _ hx]
      simp only [e183_0, e183_1, e183_2, e183_5, e183_8, e183_9, e183_10, e183_40, e183_41, e183_44, e183_46, e183_47, e183_48, e183_49, e183_50, e183_51, e183_54, e183_56, e183_57, e183_58, e183_59, e183_60, e183_61, e183_64, e183_66, e183_67, e183_68, e183_69, e183_70, e183_71, e183_74, e183_75, e183_76, e183_79, e183_80, e183_81]
      simp (disch := omega) only [if_neg]
    · rcases (show x = 0 ∨ x = 1 ∨ x = 2 ∨ x = 3 by omega) with rfl | rfl | rfl | rfl
      · refine ⟨g, ?_, Fr.rf⟩
        rw [e183_11_c0]
        simp only [e183_0, e183_1, e183_2, e183_5, e183_8, e183_9, e183_10, e183_40, e183_41, e183_44, e183_46, e183_47, e183_48, e183_49, e183_50, e183_51, e183_54, e183_56, e183_57, e183_58, e183_59, e183_60, e183_61, e183_64, e183_66, e183_67, e183_68, e183_69, e183_70, e183_71, e183_74, e183_75, e183_76, e183_79, e183_80, e183_81]
        rw [zwr_id (by omega) (by omega), if_pos (by omega), show (20 + (q : Int)).toNat = 20 + q by omega, hw]
        rfl
      · refine ⟨g, ?_, Fr.rf⟩
        rw [e183_11_c1]
        simp only [e183_0, e183_1, e183_2, e183_5, e183_8, e183_9, e183_10, e183_40, e183_41, e183_44, e183_46, e183_47, e183_48, e183_49, e183_50, e183_51, e183_54, e183_56, e183_57, e183_58, e183_59, e183_60, e183_61, e183_64, e183_66, e183_67, e183_68, e183_69, e183_70, e183_71, e183_74, e183_75, e183_76, e183_79, e183_80, e183_81]
        rw [zwr_id (by omega) (by omega), if_pos (by omega), show (9 + (q : Int)).toNat = 9 + q by omega, hw]
        rfl
      · refine ⟨g, ?_, Fr.rf⟩
        rw [e183_11_c2]
        simp only [e183_0, e183_1, e183_2, e183_5, e183_8, e183_9, e183_10, e183_40, e183_41, e183_44, e183_46, e183_47, e183_48, e183_49, e183_50, e183_51, e183_54, e183_56, e183_57, e183_58, e183_59, e183_60, e183_61, e183_64, e183_66, e183_67, e183_68, e183_69, e183_70, e183_71, e183_74, e183_75, e183_76, e183_79, e183_80, e183_81]
        rw [zwr_id (by omega) (by omega), if_pos (by omega), show (28 + (q : Int)).toNat = 28 + q by omega, hw]
        rfl
      · obtain ⟨g1, a1, a2, a3⟩ := m_begin' hR d g hw hN.1
        obtain ⟨g2, b1, b2, b3⟩ := m_odds' hR hL (d + 1) q (w 0).toNat _ _ _ g1 a2 (by have := hN.1; omega) (by omega)
        refine ⟨g2, ?_, a3.tr b3⟩
        rw [e183_11_c3]
        simp only [e183_0, e183_1, e183_2, e183_5, e183_8, e183_9, e183_10, e183_40, e183_41, e183_44, e183_46, e183_47, e183_48, e183_49, e183_50, e183_51, e183_54, e183_56, e183_57, e183_58, e183_59, e183_60, e183_61, e183_64, e183_66, e183_67, e183_68, e183_69, e183_70, e183_71, e183_74, e183_75, e183_76, e183_79, e183_80, e183_81, a1, zbV_some, b1, zbI_some]
        rfl
  · rw [zb_f h1] at hi
    refine ⟨g, ?_, Fr.rf⟩
    rw [en183]
    simp only [e183_0, e183_1, e183_2, e183_5, e183_8, e183_9, e183_10, e183_40, e183_41, e183_44, e183_46, e183_47, e183_48, e183_49, e183_50, e183_51, e183_54, e183_56, e183_57, e183_58, e183_59, e183_60, e183_61, e183_64, e183_66, e183_67, e183_68, e183_69, e183_70, e183_71, e183_74, e183_75, e183_76, e183_79, e183_80, e183_81, hi, zU_app, zbI_some, zbV_some, Int.reduceToNat, Int.reduceLE, Int.reduceLT, Int.reduceEq, Nat.reduceEqDiff, and_self, and_true, true_and, and_false, false_and, if_true, if_false, ne_eq, not_true_eq_false, not_false_eq_true, reduceCtorEq]
    rw [if_neg h1]
def bhW (w : Nat → Int) (p q : Int) : Nat → Nat → Int → Int
  | 0, _, n => n
  | m + 1, i, n => bhW w p q m (i + 1) (n + (if w (80 + 4 * i + 1) = p ∧ w (80 + 4 * i + 2) = q then 1 else 0))
theorem m_behL (d : Nat) (p q : Int) (g : zG) (h6 : 0 ≤ g 46 0 6 ∧ g 46 0 6 ≤ 100) : ∀ (m i : Nat) (n : Int), ((i + m : Nat) : Int) = g 46 0 6 → (0 ≤ n ∧ n ≤ i) → Ev d 244 28 [some (.inr (12, 0)), some (.inl p), some (.inl q), some (.inl n), some (.inl (i : Int))] [] g = some (some (.inl (bhW (g 46 0) p q m i n)), g) := by
  intro m
  induction m with
  | zero =>
    intro i n h hn
    rw [e244_28]
    simp only [e244_0, e244_1, e244_2, e244_5, e244_8, e244_9, e244_10, e244_13, e244_16, e244_17, e244_18, e244_21, e244_22, e244_23, e244_24, e244_25, e244_26, e244_30, e244_31, e244_34, e244_36, e244_37, e244_40, e244_41, e244_42, e244_45, e244_47, e244_48, e244_50, e244_51, e244_52, e244_53, e244_54, e244_55, e244_56, e244_59, e244_60, e244_63, e244_65, e244_66, e244_68, e244_69, e244_70, e244_71, e244_72, e244_73, e244_74, e244_77, e244_78, e244_81, e244_82, e244_83, e244_84, e244_87, e244_90, e244_91, zU_app, zbI_some, zbV_some, Int.reduceToNat, Int.reduceLE, Int.reduceLT, Int.reduceEq, Nat.reduceEqDiff, and_self, and_true, true_and, and_false, false_and, if_true, if_false, ne_eq, not_true_eq_false, not_false_eq_true, reduceCtorEq]
    rw [if_pos (by omega)]
    rfl
  | succ m ih =>
    intro i n h hn
    rw [e244_28]
    simp only [e244_0, e244_1, e244_2, e244_5, e244_8, e244_9, e244_10, e244_13, e244_16, e244_17, e244_18, e244_21, e244_22, e244_23, e244_24, e244_25, e244_26, e244_30, e244_31, e244_34, e244_36, e244_37, e244_40, e244_41, e244_42, e244_45, e244_47, e244_48, e244_50, e244_51, e244_52, e244_53, e244_54, e244_55, e244_56, e244_59, e244_60, e244_63, e244_65, e244_66, e244_68, e244_69, e244_70, e244_71, e244_72, e244_73, e244_74, e244_77, e244_78, e244_81, e244_82, e244_83, e244_84, e244_87, e244_90, e244_91, zU_app, zbI_some, zbV_some, Int.reduceToNat, Int.reduceLE, Int.reduceLT, Int.reduceEq, Nat.reduceEqDiff, and_self, and_true, true_and, and_false, false_and, if_true, if_false, ne_eq, not_true_eq_false, not_false_eq_true, reduceCtorEq]
    rw [if_neg (by omega), zwr_id (x := 4 * (i : Int)) (by omega) (by omega), zwr_id (x := 80 + 4 * (i : Int)) (by omega) (by omega), zwr_id (x := 80 + 4 * (i : Int) + 1) (by omega) (by omega), zwr_id (x := 80 + 4 * (i : Int) + 2) (by omega) (by omega), if_pos (by omega), show (80 + 4 * (i : Int) + 1).toNat = 80 + 4 * i + 1 by omega, show (80 + 4 * (i : Int) + 2).toNat = 80 + 4 * i + 2 by omega, bhW, zwr_id (x := (i : Int) + 1) (by omega) (by omega)]
    by_cases h1 : g 46 0 (80 + 4 * i + 1) = p
    · rw [if_neg (fun z => z h1), if_pos (by omega)]
      by_cases h2 : g 46 0 (80 + 4 * i + 2) = q
      · rw [if_neg (fun z => z h2), if_pos ⟨h1, h2⟩, zwr_id (by omega) (by omega)]
        exact ih (i + 1) _ (by omega) (by omega)
      · rw [if_pos h2, if_neg (fun z => h2 z.2), zwr_id (by omega) (by omega)]
        exact ih (i + 1) _ (by omega) (by omega)
    · rw [if_pos h1, if_neg (fun z => h1 z.1), zwr_id (by omega) (by omega)]
      exact ih (i + 1) _ (by omega) (by omega)
def aBeh (w : Nat → Int) (p q : Int) : Int := if (0 ≤ p ∧ p < w 17) ∧ (0 ≤ q ∧ q < w 17) ∧ p ≠ q then bhW w p q (w 6).toNat 0 0 else -1
theorem m_behind (d : Nat) (p q : Int) (g : zG) (h17 : 0 ≤ g 46 0 17 ∧ g 46 0 17 < 100) (h6 : 0 ≤ g 46 0 6 ∧ g 46 0 6 ≤ 100) : EvM (d + 2) 244 [.inr (12, 0), .inl p, .inl q] g = some (some (.inl (aBeh (g 46 0) p q)), g) := by
  unfold aBeh
  rw [en244]
  simp only [e244_0, e244_1, e244_2, e244_5, e244_8, e244_9, e244_10, e244_13, e244_16, e244_17, e244_18, e244_21, e244_22, e244_23, e244_24, e244_25, e244_26, e244_30, e244_31, e244_34, e244_36, e244_37, e244_40, e244_41, e244_42, e244_45, e244_47, e244_48, e244_50, e244_51, e244_52, e244_53, e244_54, e244_55, e244_56, e244_59, e244_60, e244_63, e244_65, e244_66, e244_68, e244_69, e244_70, e244_71, e244_72, e244_73, e244_74, e244_77, e244_78, e244_81, e244_82, e244_83, e244_84, e244_87, e244_90, e244_91, m_isPerson _ _ g h17, zU_app, zbI_some, zbV_some, Int.reduceToNat, Int.reduceLE, Int.reduceLT, Int.reduceEq, Nat.reduceEqDiff, and_self, and_true, true_and, and_false, false_and, if_true, if_false, ne_eq, not_true_eq_false, not_false_eq_true, reduceCtorEq]
  by_cases h1 : 0 ≤ p ∧ p < g 46 0 17
  · rw [zb_t h1, if_neg (by decide)]
    by_cases h2 : 0 ≤ q ∧ q < g 46 0 17
    · rw [zb_t h2, if_neg (by decide)]
      by_cases h3 : p = q
      · rw [if_neg (fun z => z h3), if_neg (fun z => z.2.2 h3)]
      · rw [if_pos h3, if_pos ⟨h1, h2, h3⟩]
        exact m_behL _ p q g h6 (g 46 0 6).toNat 0 0 (by omega) (by omega)
    · rw [zb_f h2, if_pos rfl, if_neg (fun z => h2 z.2.1)]
  · rw [zb_f h1, if_pos rfl, if_neg (fun z => h1 z.1)]
/-- a rule that can be -/
def cR (so nu tu : Int) : Prop := (0 ≤ tu ∧ tu ≤ 2) ∧ ((so = 0 ∧ 0 ≤ nu ∧ nu ≤ 9) ∨ (so = 1 ∧ 2 ≤ nu ∧ nu ≤ 99))
theorem m_canRule (d : Nat) (so nu tu : Int) (g : zG) : ∃ r : Int, EvM (d + 1) 25 [.inl so, .inl nu, .inl tu] g = some (some (.inl r), g) ∧ (r = 1 ∧ cR so nu tu ∨ r = 0 ∧ ¬ cR so nu tu) := by
  rw [en25]
  simp only [e25_0, e25_1, e25_2, e25_3, e25_6, e25_9, e25_10, e25_13, e25_14, e25_15, e25_17, e25_20, e25_23, e25_24, e25_25, e25_28, e25_29, e25_30, e25_32, e25_35, e25_38, e25_39, e25_42, e25_43, m_isIn, zU_app, zbI_some, zbV_some, Int.reduceToNat, Int.reduceLE, Int.reduceLT, Int.reduceEq, Nat.reduceEqDiff, and_self, and_true, true_and, and_false, false_and, if_true, if_false, ne_eq, not_true_eq_false, not_false_eq_true, reduceCtorEq]
  unfold cR
  by_cases h1 : 0 ≤ tu ∧ tu ≤ 2
  · rw [zb_t h1, if_neg (by decide)]
    by_cases h2 : so = 0
    · rw [if_neg (fun z => z h2)]
      by_cases h3 : 0 ≤ nu ∧ nu ≤ 9
      · rw [zb_t h3, if_pos (by decide)]
        exact ⟨1, by simp, Or.inl ⟨rfl, h1, Or.inl ⟨h2, h3⟩⟩⟩
      · rw [zb_f h3, if_neg (fun z => z rfl), if_pos (by omega)]
        exact ⟨0, by simp, Or.inr ⟨rfl, by rintro ⟨-, q | q⟩ <;> omega⟩⟩
    · rw [if_pos h2]
      by_cases h3 : so = 1
      · rw [if_neg (fun z => z h3)]
        by_cases h4 : 2 ≤ nu ∧ nu ≤ 99
        · rw [zb_t h4, if_neg (by decide)]
          exact ⟨1, by simp, Or.inl ⟨rfl, h1, Or.inr ⟨h3, h4⟩⟩⟩
        · rw [zb_f h4, if_pos rfl]
          exact ⟨0, by simp, Or.inr ⟨rfl, by rintro ⟨-, q | q⟩ <;> omega⟩⟩
      · rw [if_pos h3]
        exact ⟨0, by simp, Or.inr ⟨rfl, by rintro ⟨-, q | q⟩ <;> omega⟩⟩
  · rw [zb_f h1, if_pos rfl]
    exact ⟨0, by simp, Or.inr ⟨rfl, fun q => h1 q.1⟩⟩
/-- a rule laid at a place -/
def uRu (g : zG) (r : Nat) (so nu tu : Int) : zG := zU (zU (zU (zU g 46 0 (40 + 4 * r + 0) so) 46 0 (40 + 4 * r + 1) nu) 46 0 (40 + 4 * r + 2) tu) 46 0 (40 + 4 * r + 3) 1
theorem m_rulesAt (d r : Nat) (so nu tu : Int) (g : zG) (h : r < 10) : EvM (d + 1) 26 [.inr (12, 0), .inl (r : Int), .inl so, .inl nu, .inl tu] g = some (none, uRu g r so nu tu) := by
  have h0 := fun (x : Int) (g : zG) => m_gives d r 0 x g ⟨h, by decide⟩
  have h1 := fun (x : Int) (g : zG) => m_gives d r 1 x g ⟨h, by decide⟩
  have h2 := fun (x : Int) (g : zG) => m_gives d r 2 x g ⟨h, by decide⟩
  have h3 := fun (x : Int) (g : zG) => m_gives d r 3 x g ⟨h, by decide⟩
  rw [en26]
  simp only [e26_0, e26_1, e26_2, e26_3, e26_4, e26_7, e26_8, e26_9, e26_10, e26_11, e26_14, e26_15, e26_16, e26_17, e26_19, e26_22, e26_23, e26_24, e26_25, e26_26, e26_29]
  have h0' : EvM d 27 [.inr (12, 0), .inl (r : Int), .inl 0, .inl so] g = _ := h0 so g
  rw [h0', zbV_some]
  have h1' : ∀ g, EvM d 27 [.inr (12, 0), .inl (r : Int), .inl 1, .inl nu] g = _ := h1 nu
  rw [h1', zbV_some]
  have h2' : ∀ g, EvM d 27 [.inr (12, 0), .inl (r : Int), .inl 2, .inl tu] g = _ := h2 tu
  rw [h2', zbV_some]
  have h3' : ∀ g, EvM d 27 [.inr (12, 0), .inl (r : Int), .inl 3, .inl 1] g = _ := h3 1
  rw [h3', zbV_some]
  rfl
theorem m_rule (d : Nat) (so nu tu : Int) (g : zG) (h : 0 ≤ g 46 0 18 ∧ g 46 0 18 ≤ 6) : (cR so nu tu ∧ g 46 0 18 ≠ 6 ∧ EvM (d + 2) 24 [.inr (12, 0), .inl so, .inl nu, .inl tu] g = some (some (.inl (g 46 0 18)), zU (zU (uRu g (g 46 0 18).toNat so nu tu) 46 0 18 (g 46 0 18 + 1)) 12 0 3 0)) ∨ (¬ (cR so nu tu ∧ g 46 0 18 ≠ 6) ∧ EvM (d + 2) 24 [.inr (12, 0), .inl so, .inl nu, .inl tu] g = some (some (.inl (-1)), g)) := by
  obtain ⟨r, hr, hc⟩ := m_canRule d so nu tu g
  obtain ⟨k, hk⟩ : ∃ k : Nat, g 46 0 18 = (k : Int) := ⟨(g 46 0 18).toNat, by omega⟩
  rw [en24]
  rcases hc with ⟨rfl, hc⟩ | ⟨rfl, hc⟩
  · by_cases h6 : g 46 0 18 = 6
    · right
      refine ⟨fun q => q.2 h6, ?_⟩
      simp only [e24_0, e24_1, e24_2, e24_3, e24_6, e24_9, e24_10, e24_13, e24_15, e24_16, e24_18, e24_21, e24_22, e24_23, e24_24, e24_25, e24_28, e24_30, e24_31, e24_32, e24_33, e24_34, e24_37, e24_38, e24_41, e24_43, e24_44, e24_45, e24_46, e24_47, e24_48, e24_49, e24_52, e24_53, e24_56, e24_58, e24_59, e24_60, e24_61, hr, zU_app, zbI_some, zbV_some, Int.reduceToNat, Int.reduceLE, Int.reduceLT, Int.reduceEq, Nat.reduceEqDiff, and_self, and_true, true_and, and_false, false_and, if_true, if_false, ne_eq, not_true_eq_false, not_false_eq_true, reduceCtorEq, h6]
    · left
      refine ⟨hc, h6, ?_⟩
      rw [hk] at h h6 ⊢
      have e18 : uRu g k so nu tu 46 0 18 = (k : Int) := by
        unfold uRu
        rw [zU_ne (by omega), zU_ne (by omega), zU_ne (by omega), zU_ne (by omega), hk]
      simp only [e24_0, e24_1, e24_2, e24_3, e24_6, e24_9, e24_10, e24_13, e24_15, e24_16, e24_18, e24_21, e24_22, e24_23, e24_24, e24_25, e24_28, e24_30, e24_31, e24_32, e24_33, e24_34, e24_37, e24_38, e24_41, e24_43, e24_44, e24_45, e24_46, e24_47, e24_48, e24_49, e24_52, e24_53, e24_56, e24_58, e24_59, e24_60, e24_61, hr, zU_app, zbI_some, zbV_some, Int.reduceToNat, Int.reduceLE, Int.reduceLT, Int.reduceEq, Nat.reduceEqDiff, and_self, and_true, true_and, and_false, false_and, if_true, if_false, ne_eq, not_true_eq_false, not_false_eq_true, reduceCtorEq, hk]
      rw [if_pos h6, m_rulesAt d k so nu tu g (by omega), zbV_some, e18, zwr_id (by omega) (by omega), m_forgets, zbV_some, zU_ne (by omega), zU_eq, zwr_id (by omega) (by omega)]
      simp only [Int.toNat_natCast]
      congr 4
      omega
  · right
    refine ⟨fun q => hc q.1, ?_⟩
    simp only [e24_0, e24_1, e24_2, e24_3, e24_6, e24_9, e24_10, e24_13, e24_15, e24_16, e24_18, e24_21, e24_22, e24_23, e24_24, e24_25, e24_28, e24_30, e24_31, e24_32, e24_33, e24_34, e24_37, e24_38, e24_41, e24_43, e24_44, e24_45, e24_46, e24_47, e24_48, e24_49, e24_52, e24_53, e24_56, e24_58, e24_59, e24_60, e24_61, hr, zU_app, zbI_some, zbV_some, Int.reduceToNat, Int.reduceLE, Int.reduceLT, Int.reduceEq, Nat.reduceEqDiff, and_self, and_true, true_and, and_false, false_and, if_true, if_false, ne_eq, not_true_eq_false, not_false_eq_true, reduceCtorEq]
