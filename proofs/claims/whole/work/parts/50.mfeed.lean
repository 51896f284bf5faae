/-! the model: feed -/
def fdB (a b c e f : Int) (i : Nat) : Int := zand (zshr (if i < 4 then a else if i < 8 then b else if i < 12 then c else if i < 16 then e else f) ((24 - 8 * (i % 4) : Nat) : Int)) 255
theorem m_feedL (d : Nat) (a b c e f : Int) (t : Nat) (ht : t + 20 ≤ 400) : ∀ (m i : Nat) (u : Option zV) (g : zG), i + m = 20 → g 12 0 12 = ((t + i : Nat) : Int) → ∃ g', Ev d 48 18 [some (.inr (12, 0)), some (.inl a), some (.inl b), some (.inl c), some (.inl e), some (.inl f), some (.inl (i : Int)), u] [] g = some (some (.inl ((t + 20 : Nat) : Int)), g') ∧ Fr (fun k j x => (k = 51 ∧ j = 0 ∧ t + i ≤ x) ∨ (k = 12 ∧ j = 0 ∧ x = 12)) g g' ∧ g' 12 0 12 = ((t + 20 : Nat) : Int) ∧ ∀ x, i ≤ x → x < 20 → g' 51 0 (t + x) = fdB a b c e f x := by
  intro m
  induction m with
  | zero =>
    intro i u g h hb
    have e20 : i = 20 := by omega
    subst e20
    refine ⟨g, ?_, Fr.rf, hb, fun x h1 h2 => by omega⟩
    rw [e48_18]
    simp only [e48_0, e48_1, e48_4, e48_6, e48_7, e48_10, e48_13, e48_14, e48_15, e48_16, e48_20, e48_22, e48_25, e48_27, e48_28, e48_31, e48_32, e48_35, e48_37, e48_39, e48_42, e48_43, e48_46, e48_48, e48_50, e48_53, e48_54, e48_57, e48_59, e48_61, e48_64, e48_66, e48_69, e48_71, e48_73, e48_74, e48_77, e48_78, e48_81, e48_83, e48_85, e48_87, e48_89, e48_90, e48_91, e48_92, e48_93, e48_94, e48_97, e48_98, e48_99, e48_100, e48_101, e48_104, e48_105, e48_106, e48_109, e48_112, e48_115, e48_116, e48_119, zU_app, zbI_some, zbV_some, Int.reduceToNat, Int.reduceLE, Int.reduceLT, Int.reduceEq, Nat.reduceEqDiff, and_self, and_true, true_and, and_false, false_and, if_true, if_false, ne_eq, not_true_eq_false, not_false_eq_true, reduceCtorEq, hb]
    rw [if_pos (by omega)]
  | succ m ih =>
    intro i u g h hb
    have hv : Int.tmod (i : Int) 4 = ((i % 4 : Nat) : Int) := by rw [Int.tmod_eq_emod_of_nonneg (by omega)]; omega
    have next : ∀ v : Int, zand (zshr v ((24 - 8 * (i % 4) : Nat) : Int)) 255 = fdB a b c e f i → ∃ g', Ev d 48 73 [some (.inr (12, 0)), some (.inl a), some (.inl b), some (.inl c), some (.inl e), some (.inl f), some (.inl (i : Int)), some (.inl v)] [] g = some (some (.inl ((t + 20 : Nat) : Int)), g') ∧ Fr (fun k j x => (k = 51 ∧ j = 0 ∧ t + i ≤ x) ∨ (k = 12 ∧ j = 0 ∧ x = 12)) g g' ∧ g' 12 0 12 = ((t + 20 : Nat) : Int) ∧ ∀ x, i ≤ x → x < 20 → g' 51 0 (t + x) = fdB a b c e f x := by
      intro v hv2
      obtain ⟨g', a1, a2, a3, a4⟩ := ih (i + 1) (some (.inl v)) (zU (zU g 51 0 (t + i) (fdB a b c e f i)) 12 0 12 ((t + (i + 1) : Nat) : Int)) (by omega) (zU_eq _ _ _ _ _)
      refine ⟨g', ?_, ?_, a3, ?_⟩
      · rw [← a1]
        simp only [e48_0, e48_1, e48_4, e48_6, e48_7, e48_10, e48_13, e48_14, e48_15, e48_16, e48_20, e48_22, e48_25, e48_27, e48_28, e48_31, e48_32, e48_35, e48_37, e48_39, e48_42, e48_43, e48_46, e48_48, e48_50, e48_53, e48_54, e48_57, e48_59, e48_61, e48_64, e48_66, e48_69, e48_71, e48_73, e48_74, e48_77, e48_78, e48_81, e48_83, e48_85, e48_87, e48_89, e48_90, e48_91, e48_92, e48_93, e48_94, e48_97, e48_98, e48_99, e48_100, e48_101, e48_104, e48_105, e48_106, e48_109, e48_112, e48_115, e48_116, e48_119, zU_app, zbI_some, zbV_some, Int.reduceToNat, Int.reduceLE, Int.reduceLT, Int.reduceEq, Nat.reduceEqDiff, and_self, and_true, true_and, and_false, false_and, if_true, if_false, ne_eq, not_true_eq_false, not_false_eq_true, reduceCtorEq, hb, hv]
        rw [zwr_id (x := 8 * ((i % 4 : Nat) : Int)) (by omega) (by omega), zwr_id (x := 24 - 8 * ((i % 4 : Nat) : Int)) (by omega) (by omega), show 24 - 8 * ((i % 4 : Nat) : Int) = ((24 - 8 * (i % 4) : Nat) : Int) by omega, hv2, if_pos (by omega), Int.toNat_natCast, zwr_id (x := (i : Int) + 1) (by omega) (by omega), zwr_id (x := ((t + i : Nat) : Int) + 1) (by omega) (by omega)]
        rfl
      · intro k j x hx
        have n1 : ¬ (k = 51 ∧ j = 0 ∧ t + i ≤ x) := fun z => hx (Or.inl z)
        have n2 : ¬ (k = 12 ∧ j = 0 ∧ x = 12) := fun z => hx (Or.inr z)
        rw [a2 k j x (by omega), zU_ne n2, zU_ne (by omega)]
      · intro x h1 h2
        by_cases q : x = i
        · subst q
          rw [a2 51 0 _ (by omega), zU_ne (by omega), zU_eq]
        · exact a4 x (by omega) h2
    rw [e48_18]
    simp only [e48_0, e48_1, e48_4, e48_6, e48_7, e48_10, e48_13, e48_14, e48_15, e48_16, e48_20, e48_22, e48_25, e48_27, e48_28, e48_31, e48_32, e48_35, e48_37, e48_39, e48_42, e48_43, e48_46, e48_48, e48_50, e48_53, e48_54, e48_57, e48_59, e48_61, e48_64, e48_66, e48_69, e48_71, e48_74, e48_77, e48_78, e48_81, e48_83, e48_85, e48_87, e48_89, e48_90, e48_91, e48_92, e48_93, e48_94, e48_97, e48_98, e48_99, e48_100, e48_101, e48_104, e48_105, e48_106, e48_109, e48_112, e48_115, e48_116, e48_119, zU_app, zbI_some, zbV_some, Int.reduceToNat, Int.reduceLE, Int.reduceLT, Int.reduceEq, Nat.reduceEqDiff, and_self, and_true, true_and, and_false, false_and, if_true, if_false, ne_eq, not_true_eq_false, not_false_eq_true, reduceCtorEq]
    rw [if_neg (by omega)]
    by_cases c1 : i < 4
    · rw [if_neg (by omega)]
      exact next a (by unfold fdB; rw [if_pos c1])
    · rw [if_pos (by omega)]
      by_cases c2 : i < 8
      · rw [if_neg (by omega)]
        exact next b (by unfold fdB; rw [if_neg c1, if_pos c2])
      · rw [if_pos (by omega)]
        by_cases c3 : i < 12
        · rw [if_neg (by omega)]
          exact next c (by unfold fdB; rw [if_neg c1, if_neg c2, if_pos c3])
        · rw [if_pos (by omega)]
          by_cases c4 : i < 16
          · rw [if_neg (by omega)]
            exact next e (by unfold fdB; rw [if_neg c1, if_neg c2, if_neg c3, if_pos c4])
          · rw [if_pos (by omega)]
            exact next f (by unfold fdB; rw [if_neg c1, if_neg c2, if_neg c3, if_neg c4])
theorem m_feed (d : Nat) (a b c e f : Int) (t : Nat) (ht : t ≤ 400) (g : zG) (hb : g 12 0 12 = (t : Int)) : (400 < t + 20 ∧ EvM d 48 [.inr (12, 0), .inl a, .inl b, .inl c, .inl e, .inl f] g = some (some (.inl (-1)), g)) ∨ (t + 20 ≤ 400 ∧ ∃ g', EvM d 48 [.inr (12, 0), .inl a, .inl b, .inl c, .inl e, .inl f] g = some (some (.inl ((t + 20 : Nat) : Int)), g') ∧ Fr (fun k j x => (k = 51 ∧ j = 0 ∧ t ≤ x) ∨ (k = 12 ∧ j = 0 ∧ x = 12)) g g' ∧ g' 12 0 12 = ((t + 20 : Nat) : Int) ∧ ∀ x, x < 20 → g' 51 0 (t + x) = fdB a b c e f x) := by
  rw [en48]
  simp only [e48_0, e48_1, e48_4, e48_6, e48_7, e48_10, e48_13, e48_14, e48_15, e48_16, e48_20, e48_22, e48_25, e48_27, e48_28, e48_31, e48_32, e48_35, e48_37, e48_39, e48_42, e48_43, e48_46, e48_48, e48_50, e48_53, e48_54, e48_57, e48_59, e48_61, e48_64, e48_66, e48_69, e48_71, e48_73, e48_74, e48_77, e48_78, e48_81, e48_83, e48_85, e48_87, e48_89, e48_90, e48_91, e48_92, e48_93, e48_94, e48_97, e48_98, e48_99, e48_100, e48_101, e48_104, e48_105, e48_106, e48_109, e48_112, e48_115, e48_116, e48_119, zU_app, zbI_some, zbV_some, Int.reduceToNat, Int.reduceLE, Int.reduceLT, Int.reduceEq, Nat.reduceEqDiff, and_self, and_true, true_and, and_false, false_and, if_true, if_false, ne_eq, not_true_eq_false, not_false_eq_true, reduceCtorEq, hb]
  rw [zwr_id (by omega) (by omega)]
  by_cases h : t + 20 ≤ 400
  · right
    refine ⟨h, ?_⟩
    obtain ⟨g', a1, a2, a3, a4⟩ := m_feedL d a b c e f t h 20 0 none g (by omega) hb
    refine ⟨g', ?_, a2, a3, fun x hx => a4 x (by omega) hx⟩
    rw [if_pos (by omega)]
    exact a1
  · left
    refine ⟨by omega, ?_⟩
    rw [if_neg (by omega)]
