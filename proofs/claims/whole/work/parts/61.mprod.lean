/-! the model reads sums -/
def Out (g' : zG) (b : Nat → Int) (T : Nat) (s0 : List (Int × Int)) (dp x : Int) (r : ((Int × Nat) ⊕ ((Int × Nat × Int × Nat) × List (Int × Int)))) : Prop :=
  match r with
  | .inl q => x = 0 ∧ g' 12 0 17 = q.1 ∧ g' 12 0 18 = (q.2 : Int)
  | .inr q => x = 1 ∧ MdAt g' b T q.1 ∧ SlAt g' (s0 ++ q.2) ∧ g' 12 0 20 = dp
theorem tk_pr {k j i : Nat} (h : sTk k j i) : sPr k j i := Or.inr ⟨h.1, h.2.1, by have := h.2.2; omega⟩
theorem ly_pr {k j i : Nat} (h : (k = 50 ∧ j = 0) ∨ (k = 12 ∧ j = 0 ∧ i = 11)) : sPr k j i := by
  rcases h with q | q
  · exact Or.inl q
  · exact Or.inr ⟨q.1, q.2.1, by omega⟩
theorem MdAt.ly {g g' : zG} {b : Nat → Int} {T : Nat} {c : (Int × Nat × Int × Nat)} (h : MdAt g b T c) (hf : Fr (fun k j i => (k = 50 ∧ j = 0) ∨ (k = 12 ∧ j = 0 ∧ i = 11)) g g') : MdAt g' b T c := by
  obtain ⟨h1, h2, h3, h4, h5, h6, h7⟩ := h
  refine ⟨⟨(hf.fn (fun i => by omega)).trans h1.1, by rw [hf 12 0 12 (by omega)]; exact h1.2.1, h1.2.2⟩, ⟨h2.1, by rw [hf 12 0 17 (by omega)]; exact h2.2⟩, h3, ?_, ?_, ?_, ?_⟩
  · rw [hf 12 0 14 (by omega)]; exact h4
  · rw [hf 12 0 15 (by omega)]; exact h5
  · rw [hf 12 0 16 (by omega)]; exact h6
  · rw [hf 12 0 13 (by omega)]; exact h7
theorem m_bad (d : Nat) (k p : Int) (g : zG) (h : g 12 0 15 = p) : EvM d 120 [.inr (12, 0), .inl k] g = some (some (.inl 0), zU (zU g 12 0 17 k) 12 0 18 p) := by
  rw [en120]
  simp only [e120_0, e120_1, e120_2, e120_5, e120_6, e120_7, e120_10, e120_13, e120_14, zU_app, zbI_some, zbV_some, Int.reduceToNat, Int.reduceLE, Int.reduceLT, Int.reduceEq, Nat.reduceEqDiff, and_self, and_true, true_and, and_false, false_and, if_true, if_false, ne_eq, not_true_eq_false, not_false_eq_true, reduceCtorEq, h]
  simp
theorem bad_fr (g : zG) (k p : Int) : Fr sPr g (zU (zU g 12 0 17 k) 12 0 18 p) := (Fr.u (by simp [sPr])).tr (Fr.u (by simp [sPr]))
theorem m_unit (d T : Nat) (b : Nat → Int) (c : (Int × Nat × Int × Nat)) (s0 : List (Int × Int)) (dp : Int) (g : zG) (h : MdAt g b T c) (hs : SlAt g s0) (hl : s0.length ≤ c.2.1) (hd : g 12 0 20 = dp) : ∃ g' x, EvM (d + 8) 123 [.inr (12, 0)] g = some (some (.inl x), g') ∧ Fr sPr g g' ∧ Out g' b T s0 dp x (pUnit (cuN b T) c) := by
  have h4 := h.1.2.2
  have hv := h.2.2.1
  have ht := h.2.2.2.1
  have hval := h.2.2.2.2.2.1
  unfold pUnit
  by_cases q : c.1 = 2 ∨ (41 ≤ c.1 ∧ c.1 ≤ 47)
  · rw [if_pos q]
    have e1 : zwr (c.1 - 40) = c.1 - 40 := zwr_id (by omega) (by omega)
    obtain ⟨g1, a1, a2, a3⟩ := m_lay (d + 7) (if 41 ≤ c.1 ∧ c.1 ≤ 47 then c.1 - 40 else 0) c.2.2.1 s0 g hs (by have := hv.1; have := hv.2.1; omega)
    obtain ⟨g2, b1, b2, b3⟩ := m_nx d T b c g1 (h.ly a3)
    refine ⟨g2, 1, ?_, (a3.up (fun _ _ _ z => ly_pr z)).tr (b3.up (fun _ _ _ z => tk_pr z)), rfl, b2, a2.tk b3, ?_⟩
    · rw [en123]
      simp only [e123_0, e123_1, e123_4, e123_6, e123_8, e123_11, e123_12, e123_13, e123_16, e123_17, e123_20, e123_21, e123_24, e123_25, e123_26, e123_29, e123_30, e123_31, e123_32, e123_35, e123_36, e123_39, e123_41, e123_42, e123_45, e123_46, e123_47, e123_50, e123_53, e123_54, e123_57, e123_58, zU_app, zbI_some, zbV_some, Int.reduceToNat, Int.reduceLE, Int.reduceLT, Int.reduceEq, Nat.reduceEqDiff, and_self, and_true, true_and, and_false, false_and, if_true, if_false, ne_eq, not_true_eq_false, not_false_eq_true, reduceCtorEq, m_isIn, ht, hval, e1]
      by_cases q2 : 41 ≤ c.1 ∧ c.1 ≤ 47
      · rw [if_pos q2] at a1
        rw [zb_t q2, if_neg (by omega), if_pos (by decide), if_neg (by decide), a1, zbV_some, b1, zbV_some]
        simp
      · rw [if_neg q2] at a1
        rw [zb_f q2, if_pos (by omega), if_pos rfl, a1, zbV_some, b1, zbV_some]
        simp
    · rw [b3 12 0 20 (by simp [sTk]), a3 12 0 20 (by omega)]; exact hd
  · rw [if_neg q]
    have q1 : c.1 ≠ 2 := by omega
    have q2 : ¬ (41 ≤ c.1 ∧ c.1 ≤ 47) := by omega
    refine ⟨_, 0, ?_, bad_fr g 1 (c.2.1 : Int), rfl, rfl, rfl⟩
    rw [en123]
    simp only [e123_0, e123_1, e123_4, e123_6, e123_8, e123_11, e123_12, e123_13, e123_16, e123_17, e123_20, e123_21, e123_24, e123_25, e123_26, e123_29, e123_30, e123_31, e123_32, e123_35, e123_36, e123_39, e123_41, e123_42, e123_45, e123_46, e123_47, e123_50, e123_53, e123_54, e123_57, e123_58, zU_app, zbI_some, zbV_some, Int.reduceToNat, Int.reduceLE, Int.reduceLT, Int.reduceEq, Nat.reduceEqDiff, and_self, and_true, true_and, and_false, false_and, if_true, if_false, ne_eq, not_true_eq_false, not_false_eq_true, reduceCtorEq, m_isIn, ht, m_bad _ _ _ g h.2.2.2.2.1]
    rw [zb_f q2, if_neg q1, if_neg (fun z => z rfl)]
    simp
theorem m_proL (d T : Nat) (b : Nat → Int) (s0 : List (Int × Int)) (dp : Int) : ∀ (m : Nat) (c : (Int × Nat × Int × Nat)) (s : List (Int × Int)) (u1 u2 : Option zV) (g : zG), MdAt g b T c → SlAt g (s0 ++ s) → (s0 ++ s).length ≤ c.2.1 → T - c.2.1 < m → g 12 0 20 = dp → ∃ g' x, Ev (d + 9) 122 9 [some (.inr (12, 0)), u1, u2] [] g = some (some (.inl x), g') ∧ Fr sPr g g' ∧ Out g' b T s0 dp x (pProL (cuN b T) m c s) := by
  intro m
  induction m with
  | zero => intro c s u1 u2 g h hs hl hm hd; omega
  | succ m ih =>
    intro c s u1 u2 g h hs hl hm hd
    have h4 := h.1.2.2
    have hv := h.2.2.1
    have ht := h.2.2.2.1
    obtain ⟨n1, n2⟩ := cuN_ok (b := b) hv
    obtain ⟨g1, a1, a2, a3⟩ := m_nx (d + 1) T b c g h
    have hd1 : g1 12 0 20 = dp := by rw [a3 12 0 20 (by simp [sTk])]; exact hd
    rw [pProL]
    by_cases q : c.1 = 147
    · rw [if_pos q]
      have hlt := hv.2.2 (by omega)
      have ht1 := a2.2.2.2.1
      have hv1 := a2.2.2.2.2.2.1
      have start : Ev (d + 9) 122 9 [some (.inr (12, 0)), u1, u2] [] g = Ev (d + 9) 122 58 [some (.inr (12, 0)), some (.inl 1), some (.inl (cuN b T c).2.2.1)] [] g1 := by
        rw [e122_9]
        simp only [e122_0, e122_1, e122_4, e122_7, e122_8, e122_10, e122_13, e122_16, e122_19, e122_20, e122_23, e122_26, e122_29, e122_30, e122_33, e122_36, e122_39, e122_40, e122_43, e122_44, e122_45, e122_46, e122_49, e122_50, e122_53, e122_54, e122_57, e122_59, e122_62, e122_63, e122_66, e122_67, e122_68, e122_71, e122_72, e122_73, e122_76, e122_77, e122_78, e122_81, e122_82, e122_83, e122_86, e122_87, e122_89, e122_90, e122_93, e122_96, e122_97, e122_100, e122_103, e122_104, e122_105, e122_106, e122_108, e122_109, e122_112, e122_115, e122_116, zU_app, zbI_some, zbV_some, Int.reduceToNat, Int.reduceLE, Int.reduceLT, Int.reduceEq, Nat.reduceEqDiff, and_self, and_true, true_and, and_false, false_and, if_true, if_false, ne_eq, not_true_eq_false, not_false_eq_true, reduceCtorEq, ht, q, a1, hv1]
      rw [start]
      by_cases q2 : (cuN b T c).1 = 2
      · rw [if_pos q2]
        by_cases q3 : (cuN b T c).2.2.1 = 0
        · rw [if_pos q3]
          refine ⟨_, 0, ?_, (a3.up (fun _ _ _ z => tk_pr z)).tr (bad_fr g1 2 ((cuN b T c).2.1 : Int)), rfl, rfl, rfl⟩
          simp only [e122_0, e122_1, e122_4, e122_7, e122_8, e122_10, e122_13, e122_16, e122_19, e122_20, e122_23, e122_26, e122_29, e122_30, e122_33, e122_36, e122_39, e122_40, e122_43, e122_44, e122_45, e122_46, e122_49, e122_50, e122_53, e122_54, e122_57, e122_58, e122_59, e122_62, e122_63, e122_66, e122_67, e122_68, e122_71, e122_72, e122_73, e122_76, e122_77, e122_78, e122_81, e122_82, e122_83, e122_86, e122_87, e122_89, e122_90, e122_93, e122_96, e122_97, e122_100, e122_103, e122_104, e122_105, e122_106, e122_108, e122_109, e122_112, e122_115, e122_116, zU_app, zbI_some, zbV_some, Int.reduceToNat, Int.reduceLE, Int.reduceLT, Int.reduceEq, Nat.reduceEqDiff, and_self, and_true, true_and, and_false, false_and, if_true, if_false, ne_eq, not_true_eq_false, not_false_eq_true, reduceCtorEq, ht1, q2, q3, m_bad _ _ _ g1 a2.2.2.2.2.1]
          simp
        · rw [if_neg q3]
          obtain ⟨g2, b1, b2, b3⟩ := m_nx (d + 1) T b _ g1 a2
          obtain ⟨g3, c1, c2, c3⟩ := m_lay (d + 8) 16 (cuN b T c).2.2.1 (s0 ++ s) g2 ((hs.tk a3).tk b3) (by have := hv.1; have := hv.2.1; omega)
          have p1 := n1.2.2 (by rw [q2]; decide)
          obtain ⟨n3, n4⟩ := cuN_ok (b := b) n1
          have hlen : (s0 ++ (s ++ [((16 : Int), (cuN b T c).2.2.1)])).length = (s0 ++ s).length + 1 := by simp; omega
          obtain ⟨g4, x, e1, e2, e3⟩ := ih (cuN b T (cuN b T c)) (s ++ [(16, (cuN b T c).2.2.1)]) (some (.inl 1)) (some (.inl (cuN b T c).2.2.1)) g3 (b2.ly c3) (by rw [← List.append_assoc]; exact c2) (by rw [hlen]; omega) (by have := n3.1; have := n3.2.1; omega) (by rw [c3 12 0 20 (by omega), b3 12 0 20 (by simp [sTk])]; exact hd1)
          refine ⟨g4, x, ?_, (((a3.up (fun _ _ _ z => tk_pr z)).tr (b3.up (fun _ _ _ z => tk_pr z))).tr (c3.up (fun _ _ _ z => ly_pr z))).tr e2, e3⟩
          rw [← e1]
          simp only [e122_0, e122_1, e122_4, e122_7, e122_8, e122_10, e122_13, e122_16, e122_19, e122_20, e122_23, e122_26, e122_29, e122_30, e122_33, e122_36, e122_39, e122_40, e122_43, e122_44, e122_45, e122_46, e122_49, e122_50, e122_53, e122_54, e122_57, e122_58, e122_59, e122_62, e122_63, e122_66, e122_67, e122_68, e122_71, e122_72, e122_73, e122_76, e122_77, e122_78, e122_81, e122_82, e122_83, e122_86, e122_87, e122_89, e122_90, e122_93, e122_96, e122_97, e122_100, e122_103, e122_104, e122_105, e122_106, e122_108, e122_109, e122_112, e122_115, e122_116, zU_app, zbI_some, zbV_some, Int.reduceToNat, Int.reduceLE, Int.reduceLT, Int.reduceEq, Nat.reduceEqDiff, and_self, and_true, true_and, and_false, false_and, if_true, if_false, ne_eq, not_true_eq_false, not_false_eq_true, reduceCtorEq, ht1, q2, b1, c1]
          rw [if_pos q3]
      · rw [if_neg q2]
        refine ⟨_, 0, ?_, (a3.up (fun _ _ _ z => tk_pr z)).tr (bad_fr g1 1 ((cuN b T c).2.1 : Int)), rfl, rfl, rfl⟩
        simp only [e122_0, e122_1, e122_4, e122_7, e122_8, e122_10, e122_13, e122_16, e122_19, e122_20, e122_23, e122_26, e122_29, e122_30, e122_33, e122_36, e122_39, e122_40, e122_43, e122_44, e122_45, e122_46, e122_49, e122_50, e122_53, e122_54, e122_57, e122_58, e122_59, e122_62, e122_63, e122_66, e122_67, e122_68, e122_71, e122_72, e122_73, e122_76, e122_77, e122_78, e122_81, e122_82, e122_83, e122_86, e122_87, e122_89, e122_90, e122_93, e122_96, e122_97, e122_100, e122_103, e122_104, e122_105, e122_106, e122_108, e122_109, e122_112, e122_115, e122_116, zU_app, zbI_some, zbV_some, Int.reduceToNat, Int.reduceLE, Int.reduceLT, Int.reduceEq, Nat.reduceEqDiff, and_self, and_true, true_and, and_false, false_and, if_true, if_false, ne_eq, not_true_eq_false, not_false_eq_true, reduceCtorEq, ht1, m_bad _ _ _ g1 a2.2.2.2.2.1]
        rw [if_neg q2]
        simp
    · rw [if_neg q]
      by_cases q2 : c.1 = 142
      · rw [if_pos q2]
        have hlt := hv.2.2 (by omega)
        obtain ⟨g2, x, b1, b2, b3⟩ := m_unit d T b (cuN b T c) (s0 ++ s) dp g1 a2 (hs.tk a3) (by omega) hd1
        have start : Ev (d + 9) 122 9 [some (.inr (12, 0)), u1, u2] [] g = Ev (d + 9) 122 100 [some (.inr (12, 0)), some (.inl 0), u2] [.inl x] g2 := by
          rw [e122_9]
          simp only [e122_0, e122_1, e122_4, e122_7, e122_8, e122_10, e122_13, e122_16, e122_19, e122_20, e122_23, e122_26, e122_29, e122_30, e122_33, e122_36, e122_39, e122_40, e122_43, e122_44, e122_45, e122_46, e122_49, e122_50, e122_53, e122_54, e122_57, e122_58, e122_59, e122_62, e122_63, e122_66, e122_67, e122_68, e122_71, e122_72, e122_73, e122_76, e122_77, e122_78, e122_81, e122_82, e122_83, e122_86, e122_87, e122_89, e122_90, e122_93, e122_96, e122_97, e122_103, e122_104, e122_105, e122_106, e122_108, e122_109, e122_112, e122_115, e122_116, zU_app, zbI_some, zbV_some, Int.reduceToNat, Int.reduceLE, Int.reduceLT, Int.reduceEq, Nat.reduceEqDiff, and_self, and_true, true_and, and_false, false_and, if_true, if_false, ne_eq, not_true_eq_false, not_false_eq_true, reduceCtorEq, ht, q2, a1, b1]
        rw [start]
        cases hr : pUnit (cuN b T) (cuN b T c) with
        | inl y =>
          rw [hr] at b3
          obtain ⟨z1, z2, z3⟩ := b3
          refine ⟨g2, 0, ?_, (a3.up (fun _ _ _ z => tk_pr z)).tr b2, rfl, z2, z3⟩
          rw [z1]
          simp only [e122_0, e122_1, e122_4, e122_7, e122_8, e122_10, e122_13, e122_16, e122_19, e122_20, e122_23, e122_26, e122_29, e122_30, e122_33, e122_36, e122_39, e122_40, e122_43, e122_44, e122_45, e122_46, e122_49, e122_50, e122_53, e122_54, e122_57, e122_58, e122_59, e122_62, e122_63, e122_66, e122_67, e122_68, e122_71, e122_72, e122_73, e122_76, e122_77, e122_78, e122_81, e122_82, e122_83, e122_86, e122_87, e122_89, e122_90, e122_93, e122_96, e122_97, e122_100, e122_103, e122_104, e122_105, e122_106, e122_108, e122_109, e122_112, e122_115, e122_116, zU_app, zbI_some, zbV_some, Int.reduceToNat, Int.reduceLE, Int.reduceLT, Int.reduceEq, Nat.reduceEqDiff, and_self, and_true, true_and, and_false, false_and, if_true, if_false, ne_eq, not_true_eq_false, not_false_eq_true, reduceCtorEq]
          simp
        | inr y =>
          rw [hr] at b3
          obtain ⟨z1, z2, z3, z4⟩ := b3
          obtain ⟨p1, p2, p3⟩ := pUnit_prg (cuN_nx b T) n1 y.1 y.2 hr
          obtain ⟨g3, c1, c2, c3⟩ := m_lay (d + 8) 15 0 (s0 ++ s ++ y.2) g2 z3 (by have := p1.1; have := p1.2.1; rw [List.length_append]; omega)
          have hlen : (s0 ++ (s ++ y.2 ++ [((15 : Int), (0 : Int))])).length = (s0 ++ s).length + y.2.length + 1 := by simp; omega
          obtain ⟨g4, x', e1, e2, e3⟩ := ih y.1 (s ++ y.2 ++ [(15, 0)]) (some (.inl 0)) u2 g3 (z2.ly c3) (by rw [← List.append_assoc, ← List.append_assoc]; exact c2) (by rw [hlen]; omega) (by have := p1.1; have := p1.2.1; omega) (by rw [c3 12 0 20 (by omega)]; exact z4)
          refine ⟨g4, x', ?_, ((a3.up (fun _ _ _ z => tk_pr z)).tr b2).tr ((c3.up (fun _ _ _ z => ly_pr z)).tr e2), e3⟩
          rw [← e1, z1]
          simp only [e122_0, e122_1, e122_4, e122_7, e122_8, e122_10, e122_13, e122_16, e122_19, e122_20, e122_23, e122_26, e122_29, e122_30, e122_33, e122_36, e122_39, e122_40, e122_43, e122_44, e122_45, e122_46, e122_49, e122_50, e122_53, e122_54, e122_57, e122_58, e122_59, e122_62, e122_63, e122_66, e122_67, e122_68, e122_71, e122_72, e122_73, e122_76, e122_77, e122_78, e122_81, e122_82, e122_83, e122_86, e122_87, e122_89, e122_90, e122_93, e122_96, e122_97, e122_100, e122_103, e122_104, e122_105, e122_106, e122_108, e122_109, e122_112, e122_115, e122_116, zU_app, zbI_some, zbV_some, Int.reduceToNat, Int.reduceLE, Int.reduceLT, Int.reduceEq, Nat.reduceEqDiff, and_self, and_true, true_and, and_false, false_and, if_true, if_false, ne_eq, not_true_eq_false, not_false_eq_true, reduceCtorEq, c1]
      · rw [if_neg q2]
        refine ⟨g, 1, ?_, Fr.rf, rfl, h, hs, hd⟩
        rw [e122_9]
        simp only [e122_0, e122_1, e122_4, e122_7, e122_8, e122_10, e122_13, e122_16, e122_19, e122_20, e122_23, e122_26, e122_29, e122_30, e122_33, e122_36, e122_39, e122_40, e122_43, e122_44, e122_45, e122_46, e122_49, e122_50, e122_53, e122_54, e122_57, e122_58, e122_59, e122_62, e122_63, e122_66, e122_67, e122_68, e122_71, e122_72, e122_73, e122_76, e122_77, e122_78, e122_81, e122_82, e122_83, e122_86, e122_87, e122_89, e122_90, e122_93, e122_96, e122_97, e122_100, e122_103, e122_104, e122_105, e122_106, e122_108, e122_109, e122_112, e122_115, e122_116, zU_app, zbI_some, zbV_some, Int.reduceToNat, Int.reduceLE, Int.reduceLT, Int.reduceEq, Nat.reduceEqDiff, and_self, and_true, true_and, and_false, false_and, if_true, if_false, ne_eq, not_true_eq_false, not_false_eq_true, reduceCtorEq, ht]
        rw [if_neg q2, if_pos q]
        simp
