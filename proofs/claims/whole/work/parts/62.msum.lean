/-! the model reads sums, 2 -/
theorem m_product (d T F : Nat) (hF : 400 < F) (b : Nat → Int) (c : (Int × Nat × Int × Nat)) (s0 : List (Int × Int)) (dp : Int) (g : zG) (h : MdAt g b T c) (hs : SlAt g s0) (hl : s0.length ≤ c.2.1) (hd : g 12 0 20 = dp) : ∃ g' x, EvM (d + 9) 122 [.inr (12, 0)] g = some (some (.inl x), g') ∧ Fr sPr g g' ∧ Out g' b T s0 dp x (pPro (cuN b T) F c) := by
  have h4 := h.1.2.2
  obtain ⟨g1, x, a1, a2, a3⟩ := m_unit d T b c s0 dp g h hs hl hd
  unfold pPro
  cases hr : pUnit (cuN b T) c with
  | inl y =>
    rw [hr] at a3
    obtain ⟨z1, z2, z3⟩ := a3
    refine ⟨g1, 0, ?_, a2, rfl, z2, z3⟩
    rw [en122]
    simp only [e122_0, e122_1, e122_4, e122_7, e122_8, e122_10, e122_13, e122_16, e122_19, e122_20, e122_23, e122_26, e122_29, e122_30, e122_33, e122_36, e122_39, e122_40, e122_43, e122_44, e122_45, e122_46, e122_49, e122_50, e122_53, e122_54, e122_57, e122_58, e122_59, e122_62, e122_63, e122_66, e122_67, e122_68, e122_71, e122_72, e122_73, e122_76, e122_77, e122_78, e122_81, e122_82, e122_83, e122_86, e122_87, e122_89, e122_90, e122_93, e122_96, e122_97, e122_100, e122_103, e122_104, e122_105, e122_106, e122_108, e122_109, e122_112, e122_115, e122_116, zU_app, zbI_some, zbV_some, Int.reduceToNat, Int.reduceLE, Int.reduceLT, Int.reduceEq, Nat.reduceEqDiff, and_self, and_true, true_and, and_false, false_and, if_true, if_false, ne_eq, not_true_eq_false, not_false_eq_true, reduceCtorEq, a1, z1]
    simp
  | inr y =>
    rw [hr] at a3
    obtain ⟨z1, z2, z3, z4⟩ := a3
    obtain ⟨p1, p2, p3⟩ := pUnit_prg (cuN_nx b T) h.2.2.1 y.1 y.2 hr
    obtain ⟨g2, x', b1, b2, b3⟩ := m_proL d T b s0 dp F y.1 y.2 none none g1 z2 z3 (by rw [List.length_append]; omega) (by omega) z4
    refine ⟨g2, x', ?_, a2.tr b2, b3⟩
    rw [← b1, en122]
    simp only [e122_0, e122_1, e122_4, e122_7, e122_8, e122_10, e122_13, e122_16, e122_19, e122_20, e122_23, e122_26, e122_29, e122_30, e122_33, e122_36, e122_39, e122_40, e122_43, e122_44, e122_45, e122_46, e122_49, e122_50, e122_53, e122_54, e122_57, e122_58, e122_59, e122_62, e122_63, e122_66, e122_67, e122_68, e122_71, e122_72, e122_73, e122_76, e122_77, e122_78, e122_81, e122_82, e122_83, e122_86, e122_87, e122_89, e122_90, e122_93, e122_96, e122_97, e122_100, e122_103, e122_104, e122_105, e122_106, e122_108, e122_109, e122_112, e122_115, e122_116, zU_app, zbI_some, zbV_some, Int.reduceToNat, Int.reduceLE, Int.reduceLT, Int.reduceEq, Nat.reduceEqDiff, and_self, and_true, true_and, and_false, false_and, if_true, if_false, ne_eq, not_true_eq_false, not_false_eq_true, reduceCtorEq, a1, z1]
theorem m_sumL (d T F : Nat) (hF : 400 < F) (b : Nat → Int) (s0 : List (Int × Int)) (dp : Int) : ∀ (m : Nat) (c : (Int × Nat × Int × Nat)) (s : List (Int × Int)) (u1 : Option zV) (g : zG), MdAt g b T c → SlAt g (s0 ++ s) → (s0 ++ s).length ≤ c.2.1 → T - c.2.1 < m → g 12 0 20 = dp → ∃ g' x, Ev (d + 10) 121 9 [some (.inr (12, 0)), u1] [] g = some (some (.inl x), g') ∧ Fr sPr g g' ∧ Out g' b T s0 dp x (pSumL (cuN b T) F m c s) := by
  intro m
  induction m with
  | zero => intro c s u1 g h hs hl hm hd; omega
  | succ m ih =>
    intro c s u1 g h hs hl hm hd
    have h4 := h.1.2.2
    have hv := h.2.2.1
    have ht := h.2.2.2.1
    obtain ⟨n1, n2⟩ := cuN_ok (b := b) hv
    obtain ⟨g1, a1, a2, a3⟩ := m_nx (d + 2) T b c g h
    have hd1 : g1 12 0 20 = dp := by rw [a3 12 0 20 (by simp [sTk])]; exact hd
    rw [pSumL]
    by_cases q : c.1 = 143 ∨ c.1 = 145
    · rw [if_pos q]
      have hlt := hv.2.2 (by omega)
      obtain ⟨g2, x, b1, b2, b3⟩ := m_product d T F hF b (cuN b T c) (s0 ++ s) dp g1 a2 (hs.tk a3) (by omega) hd1
      have start : Ev (d + 10) 121 9 [some (.inr (12, 0)), u1] [] g = Ev (d + 10) 121 55 [some (.inr (12, 0)), some (.inl (if c.1 = 143 then 13 else 14))] [.inl x] g2 := by
        rw [e121_9]
        rcases q with q | q
        · simp only [e121_0, e121_1, e121_4, e121_7, e121_8, e121_10, e121_13, e121_16, e121_19, e121_20, e121_23, e121_26, e121_29, e121_30, e121_33, e121_36, e121_39, e121_41, e121_44, e121_46, e121_47, e121_48, e121_51, e121_52, e121_58, e121_59, e121_60, e121_61, e121_62, e121_63, e121_66, e121_69, e121_70, zU_app, zbI_some, zbV_some, Int.reduceToNat, Int.reduceLE, Int.reduceLT, Int.reduceEq, Nat.reduceEqDiff, and_self, and_true, true_and, and_false, false_and, if_true, if_false, ne_eq, not_true_eq_false, not_false_eq_true, reduceCtorEq, ht, q, a1, b1]
        · simp only [e121_0, e121_1, e121_4, e121_7, e121_8, e121_10, e121_13, e121_16, e121_19, e121_20, e121_23, e121_26, e121_29, e121_30, e121_33, e121_36, e121_39, e121_41, e121_44, e121_46, e121_47, e121_48, e121_51, e121_52, e121_58, e121_59, e121_60, e121_61, e121_62, e121_63, e121_66, e121_69, e121_70, zU_app, zbI_some, zbV_some, Int.reduceToNat, Int.reduceLE, Int.reduceLT, Int.reduceEq, Nat.reduceEqDiff, and_self, and_true, true_and, and_false, false_and, if_true, if_false, ne_eq, not_true_eq_false, not_false_eq_true, reduceCtorEq, ht, q, a1, b1]
      rw [start]
      cases hr : pPro (cuN b T) F (cuN b T c) with
      | inl y =>
        rw [hr] at b3
        obtain ⟨z1, z2, z3⟩ := b3
        refine ⟨g2, 0, ?_, (a3.up (fun _ _ _ z => tk_pr z)).tr b2, rfl, z2, z3⟩
        rw [z1]
        simp only [e121_0, e121_1, e121_4, e121_7, e121_8, e121_10, e121_13, e121_16, e121_19, e121_20, e121_23, e121_26, e121_29, e121_30, e121_33, e121_36, e121_39, e121_41, e121_44, e121_46, e121_47, e121_48, e121_51, e121_52, e121_55, e121_58, e121_59, e121_60, e121_61, e121_62, e121_63, e121_66, e121_69, e121_70, zU_app, zbI_some, zbV_some, Int.reduceToNat, Int.reduceLE, Int.reduceLT, Int.reduceEq, Nat.reduceEqDiff, and_self, and_true, true_and, and_false, false_and, if_true, if_false, ne_eq, not_true_eq_false, not_false_eq_true, reduceCtorEq]
        simp
      | inr y =>
        rw [hr] at b3
        obtain ⟨z1, z2, z3, z4⟩ := b3
        obtain ⟨p1, p2, p3⟩ := pPro_prg (cuN_nx b T) n1 y.1 y.2 hr
        obtain ⟨g3, c1, c2, c3⟩ := m_lay (d + 9) (if c.1 = 143 then 13 else 14) 0 (s0 ++ s ++ y.2) g2 z3 (by have := p1.1; have := p1.2.1; rw [List.length_append]; omega)
        have hlen : (s0 ++ (s ++ y.2 ++ [((if c.1 = 143 then 13 else 14 : Int), (0 : Int))])).length = (s0 ++ s).length + y.2.length + 1 := by simp; omega
        obtain ⟨g4, x', e1, e2, e3⟩ := ih y.1 (s ++ y.2 ++ [(if c.1 = 143 then 13 else 14, 0)]) (some (.inl (if c.1 = 143 then 13 else 14))) g3 (z2.ly c3) (by rw [← List.append_assoc, ← List.append_assoc]; exact c2) (by rw [hlen]; omega) (by have := p1.1; have := p1.2.1; omega) (by rw [c3 12 0 20 (by omega)]; exact z4)
        refine ⟨g4, x', ?_, ((a3.up (fun _ _ _ z => tk_pr z)).tr b2).tr ((c3.up (fun _ _ _ z => ly_pr z)).tr e2), e3⟩
        rw [← e1, z1]
        simp only [e121_0, e121_1, e121_4, e121_7, e121_8, e121_10, e121_13, e121_16, e121_19, e121_20, e121_23, e121_26, e121_29, e121_30, e121_33, e121_36, e121_39, e121_41, e121_44, e121_46, e121_47, e121_48, e121_51, e121_52, e121_55, e121_58, e121_59, e121_60, e121_61, e121_62, e121_63, e121_66, e121_69, e121_70, zU_app, zbI_some, zbV_some, Int.reduceToNat, Int.reduceLE, Int.reduceLT, Int.reduceEq, Nat.reduceEqDiff, and_self, and_true, true_and, and_false, false_and, if_true, if_false, ne_eq, not_true_eq_false, not_false_eq_true, reduceCtorEq, c1]
    · rw [if_neg q]
      refine ⟨g, 1, ?_, Fr.rf, rfl, h, hs, hd⟩
      rw [e121_9]
      simp only [e121_0, e121_1, e121_4, e121_7, e121_8, e121_10, e121_13, e121_16, e121_19, e121_20, e121_23, e121_26, e121_29, e121_30, e121_33, e121_36, e121_39, e121_41, e121_44, e121_46, e121_47, e121_48, e121_51, e121_52, e121_55, e121_58, e121_59, e121_60, e121_61, e121_62, e121_63, e121_66, e121_69, e121_70, zU_app, zbI_some, zbV_some, Int.reduceToNat, Int.reduceLE, Int.reduceLT, Int.reduceEq, Nat.reduceEqDiff, and_self, and_true, true_and, and_false, false_and, if_true, if_false, ne_eq, not_true_eq_false, not_false_eq_true, reduceCtorEq, ht]
      rw [if_neg (by omega), if_pos (by omega)]
      simp
theorem m_sumUp (d T F : Nat) (hF : 400 < F) (b : Nat → Int) (c : (Int × Nat × Int × Nat)) (s0 : List (Int × Int)) (dp : Int) (g : zG) (h : MdAt g b T c) (hs : SlAt g s0) (hl : s0.length ≤ c.2.1) (hd : g 12 0 20 = dp) : ∃ g' x, EvM (d + 10) 121 [.inr (12, 0)] g = some (some (.inl x), g') ∧ Fr sPr g g' ∧ Out g' b T s0 dp x (pSum (cuN b T) F c) := by
  have h4 := h.1.2.2
  obtain ⟨g1, x, a1, a2, a3⟩ := m_product d T F hF b c s0 dp g h hs hl hd
  unfold pSum
  cases hr : pPro (cuN b T) F c with
  | inl y =>
    rw [hr] at a3
    obtain ⟨z1, z2, z3⟩ := a3
    refine ⟨g1, 0, ?_, a2, rfl, z2, z3⟩
    rw [en121]
    simp only [e121_0, e121_1, e121_4, e121_7, e121_8, e121_10, e121_13, e121_16, e121_19, e121_20, e121_23, e121_26, e121_29, e121_30, e121_33, e121_36, e121_39, e121_41, e121_44, e121_46, e121_47, e121_48, e121_51, e121_52, e121_55, e121_58, e121_59, e121_60, e121_61, e121_62, e121_63, e121_66, e121_69, e121_70, zU_app, zbI_some, zbV_some, Int.reduceToNat, Int.reduceLE, Int.reduceLT, Int.reduceEq, Nat.reduceEqDiff, and_self, and_true, true_and, and_false, false_and, if_true, if_false, ne_eq, not_true_eq_false, not_false_eq_true, reduceCtorEq, a1, z1]
    simp
  | inr y =>
    rw [hr] at a3
    obtain ⟨z1, z2, z3, z4⟩ := a3
    obtain ⟨p1, p2, p3⟩ := pPro_prg (cuN_nx b T) h.2.2.1 y.1 y.2 hr
    obtain ⟨g2, x', b1, b2, b3⟩ := m_sumL d T F hF b s0 dp F y.1 y.2 none g1 z2 z3 (by rw [List.length_append]; omega) (by omega) z4
    refine ⟨g2, x', ?_, a2.tr b2, b3⟩
    rw [← b1, en121]
    simp only [e121_0, e121_1, e121_4, e121_7, e121_8, e121_10, e121_13, e121_16, e121_19, e121_20, e121_23, e121_26, e121_29, e121_30, e121_33, e121_36, e121_39, e121_41, e121_44, e121_46, e121_47, e121_48, e121_51, e121_52, e121_55, e121_58, e121_59, e121_60, e121_61, e121_62, e121_63, e121_66, e121_69, e121_70, zU_app, zbI_some, zbV_some, Int.reduceToNat, Int.reduceLE, Int.reduceLT, Int.reduceEq, Nat.reduceEqDiff, and_self, and_true, true_and, and_false, false_and, if_true, if_false, ne_eq, not_true_eq_false, not_false_eq_true, reduceCtorEq, a1, z1]
