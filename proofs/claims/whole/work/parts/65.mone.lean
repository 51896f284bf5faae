/-! the model reads a test, openings -/
theorem op_pr {k j i : Nat} (h : sTk k j i ∨ (k = 12 ∧ j = 0 ∧ i = 20)) : sPr k j i := by
  rcases h with q | q
  · exact tk_pr q
  · exact Or.inr ⟨q.1, q.2.1, by omega⟩
theorem MdAt.dp {g : zG} {b : Nat → Int} {T : Nat} {c : (Int × Nat × Int × Nat)} {x : Int} (h : MdAt g b T c) : MdAt (zU g 12 0 20 x) b T c := by
  obtain ⟨h1, h2, h3, h4, h5, h6, h7⟩ := h
  refine ⟨h1.u (by decide), ⟨h2.1, by rw [zU_ne (by omega)]; exact h2.2⟩, h3, ?_, ?_, ?_, ?_⟩
  · rw [zU_ne (by omega)]; exact h4
  · rw [zU_ne (by omega)]; exact h5
  · rw [zU_ne (by omega)]; exact h6
  · rw [zU_ne (by omega)]; exact h7
theorem SlAt.dp {g : zG} {s : List (Int × Int)} {x : Int} (h : SlAt g s) : SlAt (zU g 12 0 20 x) s := h.fr (zU_ne (by omega)) (zU_fn (by omega))
theorem m_one (T F : Nat) (hF : 400 < F) (b : Nat → Int) : ∀ (K : Nat), K ≤ 8 → ∀ (d : Nat) (c : (Int × Nat × Int × Nat)) (s0 : List (Int × Int)) (g : zG), MdAt g b T c → SlAt g s0 → s0.length ≤ c.2.1 → g 12 0 20 = ((8 - K : Nat) : Int) → ∃ g' x, EvM (d + 11 + 3 * K) 127 [.inr (12, 0)] g = some (some (.inl x), g') ∧ Fr sPr g g' ∧ Out g' b T s0 ((8 - K : Nat) : Int) x (pOne (cuN b T) F K c) := by
  intro K
  induction K with
  | zero =>
    intro hK d c s0 g h hs hl hd
    have ht := h.2.2.2.1
    rw [pOne]
    show ∃ g' x, EvM (d + 11) 127 [.inr (12, 0)] g = some (some (.inl x), g') ∧ _
    by_cases q : c.1 = 6 ∨ c.1 = 140
    · rw [if_pos q]
      have ho := m_opensN (d + 2) T b c g h hd
      refine ⟨_, 0, ?_, bad_fr g 3 (c.2.1 : Int), rfl, rfl, rfl⟩
      rw [en127]
      rcases q with q | q
      · simp only [e127_0, e127_1, e127_4, e127_6, e127_9, e127_10, e127_13, e127_16, e127_17, e127_20, e127_23, e127_24, e127_25, e127_26, e127_27, e127_30, e127_31, e127_32, e127_35, e127_36, e127_38, e127_39, e127_42, e127_43, e127_44, e127_45, e127_48, e127_51, e127_54, e127_55, e127_58, e127_61, e127_62, e127_65, e127_68, e127_69, e127_72, e127_75, e127_78, e127_79, e127_80, e127_81, e127_82, e127_85, e127_86, e127_87, e127_90, e127_91, e127_92, e127_93, e127_96, e127_99, e127_100, e127_101, e127_102, e127_105, e127_108, e127_111, e127_113, e127_116, e127_117, e127_120, e127_123, e127_126, e127_128, e127_131, e127_132, e127_135, e127_138, e127_141, e127_143, e127_146, e127_147, e127_148, e127_149, e127_150, e127_153, e127_154, e127_155, e127_158, e127_159, e127_160, e127_163, e127_164, e127_167, e127_170, e127_171, e127_172, e127_173, e127_174, e127_175, e127_178, e127_179, zU_app, zbI_some, zbV_some, Int.reduceToNat, Int.reduceLE, Int.reduceLT, Int.reduceEq, Nat.reduceEqDiff, and_self, and_true, true_and, and_false, false_and, if_true, if_false, ne_eq, not_true_eq_false, not_false_eq_true, reduceCtorEq, ht, q, ho]
        simp
      · simp only [e127_0, e127_1, e127_4, e127_6, e127_9, e127_10, e127_13, e127_16, e127_17, e127_20, e127_23, e127_24, e127_25, e127_26, e127_27, e127_30, e127_31, e127_32, e127_35, e127_36, e127_38, e127_39, e127_42, e127_43, e127_44, e127_45, e127_48, e127_51, e127_54, e127_55, e127_58, e127_61, e127_62, e127_65, e127_68, e127_69, e127_72, e127_75, e127_78, e127_79, e127_80, e127_81, e127_82, e127_85, e127_86, e127_87, e127_90, e127_91, e127_92, e127_93, e127_96, e127_99, e127_100, e127_101, e127_102, e127_105, e127_108, e127_111, e127_113, e127_116, e127_117, e127_120, e127_123, e127_126, e127_128, e127_131, e127_132, e127_135, e127_138, e127_141, e127_143, e127_146, e127_147, e127_148, e127_149, e127_150, e127_153, e127_154, e127_155, e127_158, e127_159, e127_160, e127_163, e127_164, e127_167, e127_170, e127_171, e127_172, e127_173, e127_174, e127_175, e127_178, e127_179, zU_app, zbI_some, zbV_some, Int.reduceToNat, Int.reduceLE, Int.reduceLT, Int.reduceEq, Nat.reduceEqDiff, and_self, and_true, true_and, and_false, false_and, if_true, if_false, ne_eq, not_true_eq_false, not_false_eq_true, reduceCtorEq, ht, q, ho]
        simp
    · rw [if_neg q]
      obtain ⟨g1, x, a1, a2, a3⟩ := m_cmp d T F hF b c s0 _ none g h hs hl hd
      refine ⟨g1, x, ?_, a2, a3⟩
      rw [← a1, en127]
      simp only [e127_0, e127_1, e127_4, e127_6, e127_9, e127_10, e127_13, e127_16, e127_17, e127_20, e127_23, e127_24, e127_25, e127_26, e127_27, e127_30, e127_31, e127_32, e127_35, e127_36, e127_38, e127_39, e127_42, e127_43, e127_44, e127_45, e127_48, e127_51, e127_54, e127_55, e127_58, e127_61, e127_62, e127_65, e127_68, e127_69, e127_72, e127_75, e127_78, e127_79, e127_80, e127_81, e127_82, e127_85, e127_86, e127_87, e127_90, e127_91, e127_93, e127_96, e127_99, e127_100, e127_101, e127_102, e127_105, e127_108, e127_111, e127_113, e127_116, e127_117, e127_120, e127_123, e127_126, e127_128, e127_131, e127_132, e127_135, e127_138, e127_141, e127_143, e127_146, e127_147, e127_148, e127_149, e127_150, e127_153, e127_154, e127_155, e127_158, e127_159, e127_160, e127_163, e127_164, e127_167, e127_170, e127_171, e127_172, e127_173, e127_174, e127_175, e127_178, e127_179, zU_app, zbI_some, zbV_some, Int.reduceToNat, Int.reduceLE, Int.reduceLT, Int.reduceEq, Nat.reduceEqDiff, and_self, and_true, true_and, and_false, false_and, if_true, if_false, ne_eq, not_true_eq_false, not_false_eq_true, reduceCtorEq, ht]
      rw [if_pos (by omega), if_pos (by omega)]
  | succ K ih =>
    intro hK d c s0 g h hs hl hd
    have h4 := h.1.2.2
    have hv := h.2.2.1
    have ht := h.2.2.2.1
    rw [pOne]
    obtain ⟨g1, a1, a2, a3, a4⟩ := m_opensY (d + 3 * K + 5) T b c (8 - (K + 1)) (by omega) g h hd
    rw [show 8 - (K + 1) + 1 = 8 - K by omega] at a3
    have hs1 : SlAt g1 s0 := hs.fr (a4 12 0 11 (by simp [sTk])) (a4.fn (fun i => by simp [sTk]))
    obtain ⟨n1, n2⟩ := cuN_ok (b := b) hv
    have hdep : d + 11 + 3 * (K + 1) = (d + 3 * K + 13) + 1 := by omega
    rw [hdep]
    have a1' : EvM (d + 3 * K + 13) 128 [.inr (12, 0)] g = some (some (.inl 1), g1) := a1
    by_cases q : c.1 = 6
    · rw [if_pos q]
      have hlt := hv.2.2 (by omega)
      obtain ⟨g2, x, b1, b2, b3⟩ := ih (by omega) (d + 2) (cuN b T c) s0 g1 a2 hs1 (by omega) a3
      rw [show d + 2 + 11 + 3 * K = d + 3 * K + 13 by omega] at b1
      cases hr : pOne (cuN b T) F K (cuN b T c) with
      | inl y =>
        rw [hr] at b3
        obtain ⟨z1, z2, z3⟩ := b3
        refine ⟨g2, 0, ?_, (a4.up (fun _ _ _ z => op_pr z)).tr b2, rfl, z2, z3⟩
        rw [en127]
        simp only [e127_0, e127_1, e127_4, e127_6, e127_9, e127_10, e127_13, e127_16, e127_17, e127_20, e127_23, e127_24, e127_25, e127_26, e127_27, e127_30, e127_31, e127_32, e127_35, e127_36, e127_38, e127_39, e127_42, e127_43, e127_44, e127_45, e127_48, e127_51, e127_54, e127_55, e127_58, e127_61, e127_62, e127_65, e127_68, e127_69, e127_72, e127_75, e127_78, e127_79, e127_80, e127_81, e127_82, e127_85, e127_86, e127_87, e127_90, e127_91, e127_92, e127_93, e127_96, e127_99, e127_100, e127_101, e127_102, e127_105, e127_108, e127_111, e127_113, e127_116, e127_117, e127_120, e127_123, e127_126, e127_128, e127_131, e127_132, e127_135, e127_138, e127_141, e127_143, e127_146, e127_147, e127_148, e127_149, e127_150, e127_153, e127_154, e127_155, e127_158, e127_159, e127_160, e127_163, e127_164, e127_167, e127_170, e127_171, e127_172, e127_173, e127_174, e127_175, e127_178, e127_179, zU_app, zbI_some, zbV_some, Int.reduceToNat, Int.reduceLE, Int.reduceLT, Int.reduceEq, Nat.reduceEqDiff, and_self, and_true, true_and, and_false, false_and, if_true, if_false, ne_eq, not_true_eq_false, not_false_eq_true, reduceCtorEq, ht, q, a1', b1, z1]
        simp
      | inr y =>
        rw [hr] at b3
        obtain ⟨z1, z2, z3, z4⟩ := b3
        obtain ⟨p1, p2, p3⟩ := pOne_prg (cuN_nx b T) K n1 y.1 y.2 hr
        obtain ⟨g3, c1, c2, c3⟩ := m_lay (d + 3 * K + 13) 20 0 (s0 ++ y.2) (zU g2 12 0 20 ((8 - (K + 1) : Nat) : Int)) z3.dp (by have := p1.1; have := p1.2.1; rw [List.length_append]; omega)
        refine ⟨g3, 1, ?_, (((a4.up (fun _ _ _ z => op_pr z)).tr b2).tr (Fr.u (by simp [sPr]))).tr (c3.up (fun _ _ _ z => ly_pr z)), rfl, z2.dp.ly c3, ?_, ?_⟩
        · rw [en127]
          simp only [e127_0, e127_1, e127_4, e127_6, e127_9, e127_10, e127_13, e127_16, e127_17, e127_20, e127_23, e127_24, e127_25, e127_26, e127_27, e127_30, e127_31, e127_32, e127_35, e127_36, e127_38, e127_39, e127_42, e127_43, e127_44, e127_45, e127_48, e127_51, e127_54, e127_55, e127_58, e127_61, e127_62, e127_65, e127_68, e127_69, e127_72, e127_75, e127_78, e127_79, e127_80, e127_81, e127_82, e127_85, e127_86, e127_87, e127_90, e127_91, e127_92, e127_93, e127_96, e127_99, e127_100, e127_101, e127_102, e127_105, e127_108, e127_111, e127_113, e127_116, e127_117, e127_120, e127_123, e127_126, e127_128, e127_131, e127_132, e127_135, e127_138, e127_141, e127_143, e127_146, e127_147, e127_148, e127_149, e127_150, e127_153, e127_154, e127_155, e127_158, e127_159, e127_160, e127_163, e127_164, e127_167, e127_170, e127_171, e127_172, e127_173, e127_174, e127_175, e127_178, e127_179, zU_app, zbI_some, zbV_some, Int.reduceToNat, Int.reduceLE, Int.reduceLT, Int.reduceEq, Nat.reduceEqDiff, and_self, and_true, true_and, and_false, false_and, if_true, if_false, ne_eq, not_true_eq_false, not_false_eq_true, reduceCtorEq, ht, q, a1', b1, z1, z4]
          rw [zwr_id (by omega) (by omega), show ((8 - K : Nat) : Int) - 1 = ((8 - (K + 1) : Nat) : Int) by omega, c1, zbV_some]
          simp
        · show SlAt g3 (s0 ++ (y.2 ++ [(20, 0)]))
          rw [← List.append_assoc]
          exact c2
        · rw [c3 12 0 20 (by omega), zU_eq]
    · rw [if_neg q]
      by_cases q2 : c.1 = 140
      · rw [if_pos q2]
        have hlt := hv.2.2 (by omega)
        have HO : ∀ (c : (Int × Nat × Int × Nat)) (s0 : List (Int × Int)) (g : zG), MdAt g b T c → SlAt g s0 → s0.length ≤ c.2.1 → g 12 0 20 = ((8 - K : Nat) : Int) → ∃ g' x, EvM (d + 3 * K + 4 + 7) 127 [.inr (12, 0)] g = some (some (.inl x), g') ∧ Fr sPr g g' ∧ Out g' b T s0 ((8 - K : Nat) : Int) x (pOne (cuN b T) F K c) := by
          intro c s0 g h1 h2 h3 h4
          have := ih (by omega) d c s0 g h1 h2 h3 h4
          rw [show d + 11 + 3 * K = d + 3 * K + 4 + 7 by omega] at this
          exact this
        have HE := m_every (d + 3 * K + 4) T F hF b _ (pOne (cuN b T) F K) (fun c hc => pOne_prg (cuN_nx b T) K hc) HO
        have HA := m_any (d + 3 * K + 5) T F hF b _ (pJo (cuN b T) (pOne (cuN b T) F K) 5 21 F) (fun c hc => pJo_prg (by decide) (cuN_nx b T) (fun c hc => pOne_prg (cuN_nx b T) K hc) hc) HE
        obtain ⟨g2, x, b1, b2, b3⟩ := HA (cuN b T c) s0 g1 a2 hs1 (by omega) a3
        have b1' : EvM (d + 3 * K + 13) 125 [.inr (12, 0)] g1 = some (some (.inl x), g2) := b1
        cases hr : pJo (cuN b T) (pJo (cuN b T) (pOne (cuN b T) F K) 5 21 F) 4 22 F (cuN b T c) with
        | inl y =>
          rw [hr] at b3
          obtain ⟨z1, z2, z3⟩ := b3
          refine ⟨g2, 0, ?_, (a4.up (fun _ _ _ z => op_pr z)).tr b2, rfl, z2, z3⟩
          rw [en127]
          simp only [e127_0, e127_1, e127_4, e127_6, e127_9, e127_10, e127_13, e127_16, e127_17, e127_20, e127_23, e127_24, e127_25, e127_26, e127_27, e127_30, e127_31, e127_32, e127_35, e127_36, e127_38, e127_39, e127_42, e127_43, e127_44, e127_45, e127_48, e127_51, e127_54, e127_55, e127_58, e127_61, e127_62, e127_65, e127_68, e127_69, e127_72, e127_75, e127_78, e127_79, e127_80, e127_81, e127_82, e127_85, e127_86, e127_87, e127_90, e127_91, e127_92, e127_93, e127_96, e127_99, e127_100, e127_101, e127_102, e127_105, e127_108, e127_111, e127_113, e127_116, e127_117, e127_120, e127_123, e127_126, e127_128, e127_131, e127_132, e127_135, e127_138, e127_141, e127_143, e127_146, e127_147, e127_148, e127_149, e127_150, e127_153, e127_154, e127_155, e127_158, e127_159, e127_160, e127_163, e127_164, e127_167, e127_170, e127_171, e127_172, e127_173, e127_174, e127_175, e127_178, e127_179, zU_app, zbI_some, zbV_some, Int.reduceToNat, Int.reduceLE, Int.reduceLT, Int.reduceEq, Nat.reduceEqDiff, and_self, and_true, true_and, and_false, false_and, if_true, if_false, ne_eq, not_true_eq_false, not_false_eq_true, reduceCtorEq, ht, q2, a1', b1', z1]
          simp
        | inr y =>
          rw [hr] at b3
          obtain ⟨z1, z2, z3, z4⟩ := b3
          show ∃ g' x, _ ∧ Fr sPr g g' ∧ Out g' b T s0 _ x (if y.1.1 = 141 then .inr (cuN b T y.1, y.2) else .inl (1, y.1.2.1))
          rcases m_need (d + 3 * K + 5) T b y.1 141 g2 z2 with ⟨e, g3, c1, c2, c3⟩ | ⟨e, c1⟩
          · rw [if_pos e]
            have c1' : EvM (d + 3 * K + 13) 129 [.inr (12, 0), .inl 141] g2 = some (some (.inl 1), g3) := c1
            have h20 : g3 12 0 20 = ((8 - K : Nat) : Int) := by rw [c3 12 0 20 (by simp [sTk])]; exact z4
            refine ⟨zU g3 12 0 20 ((8 - (K + 1) : Nat) : Int), 1, ?_, (((a4.up (fun _ _ _ z => op_pr z)).tr b2).tr (c3.up (fun _ _ _ z => tk_pr z))).tr (Fr.u (by simp [sPr])), rfl, c2.dp, (z3.tk c3).dp, zU_eq _ _ _ _ _⟩
            rw [en127]
            simp only [e127_0, e127_1, e127_4, e127_6, e127_9, e127_10, e127_13, e127_16, e127_17, e127_20, e127_23, e127_24, e127_25, e127_26, e127_27, e127_30, e127_31, e127_32, e127_35, e127_36, e127_38, e127_39, e127_42, e127_43, e127_44, e127_45, e127_48, e127_51, e127_54, e127_55, e127_58, e127_61, e127_62, e127_65, e127_68, e127_69, e127_72, e127_75, e127_78, e127_79, e127_80, e127_81, e127_82, e127_85, e127_86, e127_87, e127_90, e127_91, e127_92, e127_93, e127_96, e127_99, e127_100, e127_101, e127_102, e127_105, e127_108, e127_111, e127_113, e127_116, e127_117, e127_120, e127_123, e127_126, e127_128, e127_131, e127_132, e127_135, e127_138, e127_141, e127_143, e127_146, e127_147, e127_148, e127_149, e127_150, e127_153, e127_154, e127_155, e127_158, e127_159, e127_160, e127_163, e127_164, e127_167, e127_170, e127_171, e127_172, e127_173, e127_174, e127_175, e127_178, e127_179, zU_app, zbI_some, zbV_some, Int.reduceToNat, Int.reduceLE, Int.reduceLT, Int.reduceEq, Nat.reduceEqDiff, and_self, and_true, true_and, and_false, false_and, if_true, if_false, ne_eq, not_true_eq_false, not_false_eq_true, reduceCtorEq, ht, q2, a1', b1', z1, c1', h20]
            rw [zwr_id (by omega) (by omega), show ((8 - K : Nat) : Int) - 1 = ((8 - (K + 1) : Nat) : Int) by omega]
            simp
          · rw [if_neg e]
            have c1' : EvM (d + 3 * K + 13) 129 [.inr (12, 0), .inl 141] g2 = some (some (.inl 0), zU (zU g2 12 0 17 1) 12 0 18 (y.1.2.1 : Int)) := c1
            refine ⟨_, 0, ?_, ((a4.up (fun _ _ _ z => op_pr z)).tr b2).tr (bad_fr g2 1 (y.1.2.1 : Int)), rfl, rfl, rfl⟩
            rw [en127]
            simp only [e127_0, e127_1, e127_4, e127_6, e127_9, e127_10, e127_13, e127_16, e127_17, e127_20, e127_23, e127_24, e127_25, e127_26, e127_27, e127_30, e127_31, e127_32, e127_35, e127_36, e127_38, e127_39, e127_42, e127_43, e127_44, e127_45, e127_48, e127_51, e127_54, e127_55, e127_58, e127_61, e127_62, e127_65, e127_68, e127_69, e127_72, e127_75, e127_78, e127_79, e127_80, e127_81, e127_82, e127_85, e127_86, e127_87, e127_90, e127_91, e127_92, e127_93, e127_96, e127_99, e127_100, e127_101, e127_102, e127_105, e127_108, e127_111, e127_113, e127_116, e127_117, e127_120, e127_123, e127_126, e127_128, e127_131, e127_132, e127_135, e127_138, e127_141, e127_143, e127_146, e127_147, e127_148, e127_149, e127_150, e127_153, e127_154, e127_155, e127_158, e127_159, e127_160, e127_163, e127_164, e127_167, e127_170, e127_171, e127_172, e127_173, e127_174, e127_175, e127_178, e127_179, zU_app, zbI_some, zbV_some, Int.reduceToNat, Int.reduceLE, Int.reduceLT, Int.reduceEq, Nat.reduceEqDiff, and_self, and_true, true_and, and_false, false_and, if_true, if_false, ne_eq, not_true_eq_false, not_false_eq_true, reduceCtorEq, ht, q2, a1', b1', z1, c1']
            simp
      · rw [if_neg q2]
        obtain ⟨g2, x, b1, b2, b3⟩ := m_cmp (d + 3 * K + 3) T F hF b c s0 _ none g h hs hl hd
        refine ⟨g2, x, ?_, b2, b3⟩
        rw [← b1, en127]
        simp only [e127_0, e127_1, e127_4, e127_6, e127_9, e127_10, e127_13, e127_16, e127_17, e127_20, e127_23, e127_24, e127_25, e127_26, e127_27, e127_30, e127_31, e127_32, e127_35, e127_36, e127_38, e127_39, e127_42, e127_43, e127_44, e127_45, e127_48, e127_51, e127_54, e127_55, e127_58, e127_61, e127_62, e127_65, e127_68, e127_69, e127_72, e127_75, e127_78, e127_79, e127_80, e127_81, e127_82, e127_85, e127_86, e127_87, e127_90, e127_91, e127_93, e127_96, e127_99, e127_100, e127_101, e127_102, e127_105, e127_108, e127_111, e127_113, e127_116, e127_117, e127_120, e127_123, e127_126, e127_128, e127_131, e127_132, e127_135, e127_138, e127_141, e127_143, e127_146, e127_147, e127_148, e127_149, e127_150, e127_153, e127_154, e127_155, e127_158, e127_159, e127_160, e127_163, e127_164, e127_167, e127_170, e127_171, e127_172, e127_173, e127_174, e127_175, e127_178, e127_179, zU_app, zbI_some, zbV_some, Int.reduceToNat, Int.reduceLE, Int.reduceLT, Int.reduceEq, Nat.reduceEqDiff, and_self, and_true, true_and, and_false, false_and, if_true, if_false, ne_eq, not_true_eq_false, not_false_eq_true, reduceCtorEq, ht]
        rw [if_pos q, if_pos q2]
