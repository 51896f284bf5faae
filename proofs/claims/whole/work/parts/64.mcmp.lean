/-! the model reads a test -/
theorem cmO_147 {t : Int} {d : Nat} {u : Option zV} {g : zG} (ht : g 12 0 14 = t) : Ev d 127 101 [some (.inr (12, 0)), u] [] g = Ev d 127 148 [some (.inr (12, 0)), some (.inl (cmO t))] [] g := by
  simp only [e127_0, e127_1, e127_4, e127_6, e127_9, e127_10, e127_13, e127_16, e127_17, e127_20, e127_23, e127_24, e127_25, e127_26, e127_27, e127_30, e127_31, e127_32, e127_35, e127_36, e127_38, e127_39, e127_42, e127_43, e127_44, e127_45, e127_48, e127_51, e127_54, e127_55, e127_58, e127_61, e127_62, e127_65, e127_68, e127_69, e127_72, e127_75, e127_78, e127_79, e127_80, e127_81, e127_82, e127_85, e127_86, e127_87, e127_90, e127_91, e127_92, e127_93, e127_96, e127_99, e127_100, e127_101, e127_102, e127_105, e127_108, e127_111, e127_113, e127_116, e127_117, e127_120, e127_123, e127_126, e127_128, e127_131, e127_132, e127_135, e127_138, e127_141, e127_143, e127_146, e127_147, e127_149, e127_150, e127_153, e127_154, e127_155, e127_158, e127_159, e127_160, e127_163, e127_164, e127_167, e127_170, e127_171, e127_172, e127_173, e127_174, e127_175, e127_178, e127_179, ht]
  unfold cmO
  by_cases q1 : t = 160
  · rw [if_neg (fun z => z q1), if_pos q1]
  · rw [if_pos q1, if_neg q1]
    by_cases q2 : t = 161
    · rw [if_neg (fun z => z q2), if_pos q2]
    · rw [if_pos q2, if_neg q2]
      by_cases q3 : t = 162
      · rw [if_neg (fun z => z q3), if_pos q3]
      · rw [if_pos q3, if_neg q3]
theorem m_cmp (d T F : Nat) (hF : 400 < F) (b : Nat → Int) (c : (Int × Nat × Int × Nat)) (s0 : List (Int × Int)) (dp : Int) (u : Option zV) (g : zG) (h : MdAt g b T c) (hs : SlAt g s0) (hl : s0.length ≤ c.2.1) (hd : g 12 0 20 = dp) : ∃ g' x, Ev (d + 11) 127 92 [some (.inr (12, 0)), u] [] g = some (some (.inl x), g') ∧ Fr sPr g g' ∧ Out g' b T s0 dp x (pCmp (cuN b T) F c) := by
  have h4 := h.1.2.2
  obtain ⟨g1, x, a1, a2, a3⟩ := m_sumUp d T F hF b c s0 dp g h hs hl hd
  unfold pCmp
  cases hr : pSum (cuN b T) F c with
  | inl y =>
    rw [hr] at a3
    obtain ⟨z1, z2, z3⟩ := a3
    refine ⟨g1, 0, ?_, a2, rfl, z2, z3⟩
    simp only [e127_0, e127_1, e127_4, e127_6, e127_9, e127_10, e127_13, e127_16, e127_17, e127_20, e127_23, e127_24, e127_25, e127_26, e127_27, e127_30, e127_31, e127_32, e127_35, e127_36, e127_38, e127_39, e127_42, e127_43, e127_44, e127_45, e127_48, e127_51, e127_54, e127_55, e127_58, e127_61, e127_62, e127_65, e127_68, e127_69, e127_72, e127_75, e127_78, e127_79, e127_80, e127_81, e127_82, e127_85, e127_86, e127_87, e127_90, e127_91, e127_92, e127_93, e127_96, e127_99, e127_100, e127_101, e127_102, e127_105, e127_108, e127_111, e127_113, e127_116, e127_117, e127_120, e127_123, e127_126, e127_128, e127_131, e127_132, e127_135, e127_138, e127_141, e127_143, e127_146, e127_147, e127_148, e127_149, e127_150, e127_153, e127_154, e127_155, e127_158, e127_159, e127_160, e127_163, e127_164, e127_167, e127_170, e127_171, e127_172, e127_173, e127_174, e127_175, e127_178, e127_179, zU_app, zbI_some, zbV_some, Int.reduceToNat, Int.reduceLE, Int.reduceLT, Int.reduceEq, Nat.reduceEqDiff, and_self, and_true, true_and, and_false, false_and, if_true, if_false, ne_eq, not_true_eq_false, not_false_eq_true, reduceCtorEq, a1, z1]
    simp
  | inr y =>
    rw [hr] at a3
    obtain ⟨z1, z2, z3, z4⟩ := a3
    obtain ⟨p1, p2, p3⟩ := pSum_prg (cuN_nx b T) h.2.2.1 y.1 y.2 hr
    have start : Ev (d + 11) 127 92 [some (.inr (12, 0)), u] [] g = Ev (d + 11) 127 148 [some (.inr (12, 0)), some (.inl (cmO y.1.1))] [] g1 := by
      rw [← cmO_147 (u := u) z2.2.2.2.1]
      simp only [e127_0, e127_1, e127_4, e127_6, e127_9, e127_10, e127_13, e127_16, e127_17, e127_20, e127_23, e127_24, e127_25, e127_26, e127_27, e127_30, e127_31, e127_32, e127_35, e127_36, e127_38, e127_39, e127_42, e127_43, e127_44, e127_45, e127_48, e127_51, e127_54, e127_55, e127_58, e127_61, e127_62, e127_65, e127_68, e127_69, e127_72, e127_75, e127_78, e127_79, e127_80, e127_81, e127_82, e127_85, e127_86, e127_87, e127_90, e127_91, e127_92, e127_93, e127_96, e127_99, e127_100, e127_102, e127_105, e127_108, e127_111, e127_113, e127_116, e127_117, e127_120, e127_123, e127_126, e127_128, e127_131, e127_132, e127_135, e127_138, e127_141, e127_143, e127_146, e127_147, e127_148, e127_149, e127_150, e127_153, e127_154, e127_155, e127_158, e127_159, e127_160, e127_163, e127_164, e127_167, e127_170, e127_171, e127_172, e127_173, e127_174, e127_175, e127_178, e127_179, zU_app, zbI_some, zbV_some, Int.reduceToNat, Int.reduceLE, Int.reduceLT, Int.reduceEq, Nat.reduceEqDiff, and_self, and_true, true_and, and_false, false_and, if_true, if_false, ne_eq, not_true_eq_false, not_false_eq_true, reduceCtorEq, a1, z1]
    rw [start]
    show ∃ g' x, _ ∧ Fr sPr g g' ∧ Out g' b T s0 dp x (if cmO y.1.1 = -1 then .inl (1, y.1.2.1) else bnd (pSum (cuN b T) F (cuN b T y.1)) (fun c2 u => .inr (c2, y.2 ++ u ++ [(cmO y.1.1, 0)])))
    by_cases q : cmO y.1.1 = -1
    · rw [if_pos q]
      refine ⟨_, 0, ?_, a2.tr (bad_fr g1 1 (y.1.2.1 : Int)), rfl, rfl, rfl⟩
      simp only [e127_0, e127_1, e127_4, e127_6, e127_9, e127_10, e127_13, e127_16, e127_17, e127_20, e127_23, e127_24, e127_25, e127_26, e127_27, e127_30, e127_31, e127_32, e127_35, e127_36, e127_38, e127_39, e127_42, e127_43, e127_44, e127_45, e127_48, e127_51, e127_54, e127_55, e127_58, e127_61, e127_62, e127_65, e127_68, e127_69, e127_72, e127_75, e127_78, e127_79, e127_80, e127_81, e127_82, e127_85, e127_86, e127_87, e127_90, e127_91, e127_92, e127_93, e127_96, e127_99, e127_100, e127_101, e127_102, e127_105, e127_108, e127_111, e127_113, e127_116, e127_117, e127_120, e127_123, e127_126, e127_128, e127_131, e127_132, e127_135, e127_138, e127_141, e127_143, e127_146, e127_147, e127_148, e127_149, e127_150, e127_153, e127_154, e127_155, e127_158, e127_159, e127_160, e127_163, e127_164, e127_167, e127_170, e127_171, e127_172, e127_173, e127_174, e127_175, e127_178, e127_179, zU_app, zbI_some, zbV_some, Int.reduceToNat, Int.reduceLE, Int.reduceLT, Int.reduceEq, Nat.reduceEqDiff, and_self, and_true, true_and, and_false, false_and, if_true, if_false, ne_eq, not_true_eq_false, not_false_eq_true, reduceCtorEq, q, m_bad _ _ _ g1 z2.2.2.2.2.1]
      simp
    · rw [if_neg q]
      have hlt := p1.2.2 (cmO_0 q)
      obtain ⟨g2, b1, b2, b3⟩ := m_nx (d + 3) T b y.1 g1 z2
      obtain ⟨n1, n2⟩ := cuN_ok (b := b) p1
      have hd2 : g2 12 0 20 = dp := by rw [b3 12 0 20 (by simp [sTk])]; exact z4
      obtain ⟨g3, x', c1, c2, c3⟩ := m_sumUp d T F hF b (cuN b T y.1) (s0 ++ y.2) dp g2 b2 (z3.tk b3) (by rw [List.length_append]; omega) hd2
      cases hr2 : pSum (cuN b T) F (cuN b T y.1) with
      | inl y2 =>
        rw [hr2] at c3
        obtain ⟨w1, w2, w3⟩ := c3
        refine ⟨g3, 0, ?_, (a2.tr (b3.up (fun _ _ _ z => tk_pr z))).tr c2, rfl, w2, w3⟩
        simp only [e127_0, e127_1, e127_4, e127_6, e127_9, e127_10, e127_13, e127_16, e127_17, e127_20, e127_23, e127_24, e127_25, e127_26, e127_27, e127_30, e127_31, e127_32, e127_35, e127_36, e127_38, e127_39, e127_42, e127_43, e127_44, e127_45, e127_48, e127_51, e127_54, e127_55, e127_58, e127_61, e127_62, e127_65, e127_68, e127_69, e127_72, e127_75, e127_78, e127_79, e127_80, e127_81, e127_82, e127_85, e127_86, e127_87, e127_90, e127_91, e127_92, e127_93, e127_96, e127_99, e127_100, e127_101, e127_102, e127_105, e127_108, e127_111, e127_113, e127_116, e127_117, e127_120, e127_123, e127_126, e127_128, e127_131, e127_132, e127_135, e127_138, e127_141, e127_143, e127_146, e127_147, e127_148, e127_149, e127_150, e127_153, e127_154, e127_155, e127_158, e127_159, e127_160, e127_163, e127_164, e127_167, e127_170, e127_171, e127_172, e127_173, e127_174, e127_175, e127_178, e127_179, zU_app, zbI_some, zbV_some, Int.reduceToNat, Int.reduceLE, Int.reduceLT, Int.reduceEq, Nat.reduceEqDiff, and_self, and_true, true_and, and_false, false_and, if_true, if_false, ne_eq, not_true_eq_false, not_false_eq_true, reduceCtorEq, b1, c1, w1]
        rw [if_pos q]
        simp
      | inr y2 =>
        rw [hr2] at c3
        obtain ⟨w1, w2, w3, w4⟩ := c3
        obtain ⟨r1, r2, r3⟩ := pSum_prg (cuN_nx b T) n1 y2.1 y2.2 hr2
        obtain ⟨g4, e1, e2, e3⟩ := m_lay (d + 10) (cmO y.1.1) 0 (s0 ++ y.2 ++ y2.2) g3 w3 (by have := r1.1; have := r1.2.1; rw [List.length_append, List.length_append]; omega)
        refine ⟨g4, 1, ?_, ((a2.tr (b3.up (fun _ _ _ z => tk_pr z))).tr c2).tr (e3.up (fun _ _ _ z => ly_pr z)), rfl, w2.ly e3, ?_, ?_⟩
        · simp only [e127_0, e127_1, e127_4, e127_6, e127_9, e127_10, e127_13, e127_16, e127_17, e127_20, e127_23, e127_24, e127_25, e127_26, e127_27, e127_30, e127_31, e127_32, e127_35, e127_36, e127_38, e127_39, e127_42, e127_43, e127_44, e127_45, e127_48, e127_51, e127_54, e127_55, e127_58, e127_61, e127_62, e127_65, e127_68, e127_69, e127_72, e127_75, e127_78, e127_79, e127_80, e127_81, e127_82, e127_85, e127_86, e127_87, e127_90, e127_91, e127_92, e127_93, e127_96, e127_99, e127_100, e127_101, e127_102, e127_105, e127_108, e127_111, e127_113, e127_116, e127_117, e127_120, e127_123, e127_126, e127_128, e127_131, e127_132, e127_135, e127_138, e127_141, e127_143, e127_146, e127_147, e127_148, e127_149, e127_150, e127_153, e127_154, e127_155, e127_158, e127_159, e127_160, e127_163, e127_164, e127_167, e127_170, e127_171, e127_172, e127_173, e127_174, e127_175, e127_178, e127_179, zU_app, zbI_some, zbV_some, Int.reduceToNat, Int.reduceLE, Int.reduceLT, Int.reduceEq, Nat.reduceEqDiff, and_self, and_true, true_and, and_false, false_and, if_true, if_false, ne_eq, not_true_eq_false, not_false_eq_true, reduceCtorEq, b1, c1, w1, e1]
          rw [if_pos q]
          simp
        · show SlAt g4 (s0 ++ (y.2 ++ y2.2 ++ [(cmO y.1.1, 0)]))
          rw [← List.append_assoc, ← List.append_assoc]
          exact e2
        · rw [e3 12 0 20 (by omega)]; exact w4
