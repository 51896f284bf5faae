/-! the model reads what is joined -/
theorem m_everyL (d T F : Nat) (b : Nat → Int) (dp : Int) (one : (Int × Nat × Int × Nat) → ((Int × Nat) ⊕ ((Int × Nat × Int × Nat) × List (Int × Int)))) (ho : ∀ c, VC T c → Prg T c (one c)) (H : ∀ (c : (Int × Nat × Int × Nat)) (s0 : List (Int × Int)) (g : zG), MdAt g b T c → SlAt g s0 → s0.length ≤ c.2.1 → g 12 0 20 = dp → ∃ g' x, EvM (d + 7) 127 [.inr (12, 0)] g = some (some (.inl x), g') ∧ Fr sPr g g' ∧ Out g' b T s0 dp x (one c)) (s0 : List (Int × Int)) : ∀ (m : Nat) (c : (Int × Nat × Int × Nat)) (s : List (Int × Int)) (g : zG), MdAt g b T c → SlAt g (s0 ++ s) → (s0 ++ s).length ≤ c.2.1 → T - c.2.1 < m → g 12 0 20 = dp → ∃ g' x, Ev (d + 8) 126 9 [some (.inr (12, 0))] [] g = some (some (.inl x), g') ∧ Fr sPr g g' ∧ Out g' b T s0 dp x (pJoL (cuN b T) one 5 21 m c s) := by
  intro m
  induction m with
  | zero => intro c s g h hs hl hm hd; omega
  | succ m ih =>
    intro c s g h hs hl hm hd
    have h4 := h.1.2.2
    have hv := h.2.2.1
    have ht := h.2.2.2.1
    obtain ⟨n1, n2⟩ := cuN_ok (b := b) hv
    obtain ⟨g1, a1, a2, a3⟩ := m_nx d T b c g h
    have hd1 : g1 12 0 20 = dp := by rw [a3 12 0 20 (by simp [sTk])]; exact hd
    rw [pJoL]
    by_cases q : c.1 = 5
    · rw [if_pos q]
      have hlt := hv.2.2 (by omega)
      obtain ⟨g2, x, b1, b2, b3⟩ := H (cuN b T c) (s0 ++ s) g1 a2 (hs.tk a3) (by omega) hd1
      have start : Ev (d + 8) 126 9 [some (.inr (12, 0))] [] g = Ev (d + 8) 126 25 [some (.inr (12, 0))] [.inl x] g2 := by
        rw [e126_9]
        simp only [e126_0, e126_1, e126_4, e126_7, e126_8, e126_10, e126_13, e126_14, e126_17, e126_18, e126_21, e126_22, e126_28, e126_29, e126_30, e126_31, e126_33, e126_34, e126_37, e126_40, e126_41, zU_app, zbI_some, zbV_some, Int.reduceToNat, Int.reduceLE, Int.reduceLT, Int.reduceEq, Nat.reduceEqDiff, and_self, and_true, true_and, and_false, false_and, if_true, if_false, ne_eq, not_true_eq_false, not_false_eq_true, reduceCtorEq, ht, q, a1, b1]
      rw [start]
      cases hr : one (cuN b T c) with
      | inl y =>
        rw [hr] at b3
        obtain ⟨z1, z2, z3⟩ := b3
        refine ⟨g2, 0, ?_, (a3.up (fun _ _ _ z => tk_pr z)).tr b2, rfl, z2, z3⟩
        rw [z1]
        simp only [e126_0, e126_1, e126_4, e126_7, e126_8, e126_10, e126_13, e126_14, e126_17, e126_18, e126_21, e126_22, e126_25, e126_28, e126_29, e126_30, e126_31, e126_33, e126_34, e126_37, e126_40, e126_41, zU_app, zbI_some, zbV_some, Int.reduceToNat, Int.reduceLE, Int.reduceLT, Int.reduceEq, Nat.reduceEqDiff, and_self, and_true, true_and, and_false, false_and, if_true, if_false, ne_eq, not_true_eq_false, not_false_eq_true, reduceCtorEq]
        simp
      | inr y =>
        rw [hr] at b3
        obtain ⟨z1, z2, z3, z4⟩ := b3
        obtain ⟨p1, p2, p3⟩ := ho _ n1 y.1 y.2 hr
        obtain ⟨g3, c1, c2, c3⟩ := m_lay (d + 7) 21 0 (s0 ++ s ++ y.2) g2 z3 (by have := p1.1; have := p1.2.1; rw [List.length_append]; omega)
        have hlen : (s0 ++ (s ++ y.2 ++ [((21 : Int), (0 : Int))])).length = (s0 ++ s).length + y.2.length + 1 := by simp; omega
        obtain ⟨g4, x', e1, e2, e3⟩ := ih y.1 (s ++ y.2 ++ [(21, 0)]) g3 (z2.ly c3) (by rw [← List.append_assoc, ← List.append_assoc]; exact c2) (by rw [hlen]; omega) (by have := p1.1; have := p1.2.1; omega) (by rw [c3 12 0 20 (by omega)]; exact z4)
        refine ⟨g4, x', ?_, ((a3.up (fun _ _ _ z => tk_pr z)).tr b2).tr ((c3.up (fun _ _ _ z => ly_pr z)).tr e2), e3⟩
        rw [← e1, z1]
        simp only [e126_0, e126_1, e126_4, e126_7, e126_8, e126_10, e126_13, e126_14, e126_17, e126_18, e126_21, e126_22, e126_25, e126_28, e126_29, e126_30, e126_31, e126_33, e126_34, e126_37, e126_40, e126_41, zU_app, zbI_some, zbV_some, Int.reduceToNat, Int.reduceLE, Int.reduceLT, Int.reduceEq, Nat.reduceEqDiff, and_self, and_true, true_and, and_false, false_and, if_true, if_false, ne_eq, not_true_eq_false, not_false_eq_true, reduceCtorEq, c1]
    · rw [if_neg q]
      refine ⟨g, 1, ?_, Fr.rf, rfl, h, hs, hd⟩
      rw [e126_9]
      simp only [e126_0, e126_1, e126_4, e126_7, e126_8, e126_10, e126_13, e126_14, e126_17, e126_18, e126_21, e126_22, e126_25, e126_28, e126_29, e126_30, e126_31, e126_33, e126_34, e126_37, e126_40, e126_41, zU_app, zbI_some, zbV_some, Int.reduceToNat, Int.reduceLE, Int.reduceLT, Int.reduceEq, Nat.reduceEqDiff, and_self, and_true, true_and, and_false, false_and, if_true, if_false, ne_eq, not_true_eq_false, not_false_eq_true, reduceCtorEq, ht]
      rw [if_pos q]
      simp
theorem m_every (d T F : Nat) (hF : 400 < F) (b : Nat → Int) (dp : Int) (one : (Int × Nat × Int × Nat) → ((Int × Nat) ⊕ ((Int × Nat × Int × Nat) × List (Int × Int)))) (ho : ∀ c, VC T c → Prg T c (one c)) (H : ∀ (c : (Int × Nat × Int × Nat)) (s0 : List (Int × Int)) (g : zG), MdAt g b T c → SlAt g s0 → s0.length ≤ c.2.1 → g 12 0 20 = dp → ∃ g' x, EvM (d + 7) 127 [.inr (12, 0)] g = some (some (.inl x), g') ∧ Fr sPr g g' ∧ Out g' b T s0 dp x (one c)) (c : (Int × Nat × Int × Nat)) (s0 : List (Int × Int)) (g : zG) (h : MdAt g b T c) (hs : SlAt g s0) (hl : s0.length ≤ c.2.1) (hd : g 12 0 20 = dp) : ∃ g' x, EvM (d + 8) 126 [.inr (12, 0)] g = some (some (.inl x), g') ∧ Fr sPr g g' ∧ Out g' b T s0 dp x (pJo (cuN b T) one 5 21 F c) := by
  have h4 := h.1.2.2
  obtain ⟨g1, x, a1, a2, a3⟩ := H c s0 g h hs hl hd
  unfold pJo
  cases hr : one c with
  | inl y =>
    rw [hr] at a3
    obtain ⟨z1, z2, z3⟩ := a3
    refine ⟨g1, 0, ?_, a2, rfl, z2, z3⟩
    rw [en126]
    simp only [e126_0, e126_1, e126_4, e126_7, e126_8, e126_10, e126_13, e126_14, e126_17, e126_18, e126_21, e126_22, e126_25, e126_28, e126_29, e126_30, e126_31, e126_33, e126_34, e126_37, e126_40, e126_41, zU_app, zbI_some, zbV_some, Int.reduceToNat, Int.reduceLE, Int.reduceLT, Int.reduceEq, Nat.reduceEqDiff, and_self, and_true, true_and, and_false, false_and, if_true, if_false, ne_eq, not_true_eq_false, not_false_eq_true, reduceCtorEq, a1, z1]
    simp
  | inr y =>
    rw [hr] at a3
    obtain ⟨z1, z2, z3, z4⟩ := a3
    obtain ⟨p1, p2, p3⟩ := ho c h.2.2.1 y.1 y.2 hr
    obtain ⟨g2, x', b1, b2, b3⟩ := m_everyL d T F b dp one ho H s0 F y.1 y.2 g1 z2 z3 (by rw [List.length_append]; omega) (by omega) z4
    refine ⟨g2, x', ?_, a2.tr b2, b3⟩
    rw [← b1, en126]
    simp only [e126_0, e126_1, e126_4, e126_7, e126_8, e126_10, e126_13, e126_14, e126_17, e126_18, e126_21, e126_22, e126_25, e126_28, e126_29, e126_30, e126_31, e126_33, e126_34, e126_37, e126_40, e126_41, zU_app, zbI_some, zbV_some, Int.reduceToNat, Int.reduceLE, Int.reduceLT, Int.reduceEq, Nat.reduceEqDiff, and_self, and_true, true_and, and_false, false_and, if_true, if_false, ne_eq, not_true_eq_false, not_false_eq_true, reduceCtorEq, a1, z1]
theorem m_anyL (d T F : Nat) (b : Nat → Int) (dp : Int) (one : (Int × Nat × Int × Nat) → ((Int × Nat) ⊕ ((Int × Nat × Int × Nat) × List (Int × Int)))) (ho : ∀ c, VC T c → Prg T c (one c)) (H : ∀ (c : (Int × Nat × Int × Nat)) (s0 : List (Int × Int)) (g : zG), MdAt g b T c → SlAt g s0 → s0.length ≤ c.2.1 → g 12 0 20 = dp → ∃ g' x, EvM (d + 7) 126 [.inr (12, 0)] g = some (some (.inl x), g') ∧ Fr sPr g g' ∧ Out g' b T s0 dp x (one c)) (s0 : List (Int × Int)) : ∀ (m : Nat) (c : (Int × Nat × Int × Nat)) (s : List (Int × Int)) (g : zG), MdAt g b T c → SlAt g (s0 ++ s) → (s0 ++ s).length ≤ c.2.1 → T - c.2.1 < m → g 12 0 20 = dp → ∃ g' x, Ev (d + 8) 125 9 [some (.inr (12, 0))] [] g = some (some (.inl x), g') ∧ Fr sPr g g' ∧ Out g' b T s0 dp x (pJoL (cuN b T) one 4 22 m c s) := by
  intro m
  induction m with
  | zero => intro c s g h hs hl hm hd; omega
  | succ m ih =>
    intro c s g h hs hl hm hd
    have h4 := h.1.2.2
    have hv := h.2.2.1
    have ht := h.2.2.2.1
    obtain ⟨n1, n2⟩ := cuN_ok (b := b) hv
    obtain ⟨g1, a1, a2, a3⟩ := m_nx d T b c g h
    have hd1 : g1 12 0 20 = dp := by rw [a3 12 0 20 (by simp [sTk])]; exact hd
    rw [pJoL]
    by_cases q : c.1 = 4
    · rw [if_pos q]
      have hlt := hv.2.2 (by omega)
      obtain ⟨g2, x, b1, b2, b3⟩ := H (cuN b T c) (s0 ++ s) g1 a2 (hs.tk a3) (by omega) hd1
      have start : Ev (d + 8) 125 9 [some (.inr (12, 0))] [] g = Ev (d + 8) 125 25 [some (.inr (12, 0))] [.inl x] g2 := by
        rw [e125_9]
        simp only [e125_0, e125_1, e125_4, e125_7, e125_8, e125_10, e125_13, e125_14, e125_17, e125_18, e125_21, e125_22, e125_28, e125_29, e125_30, e125_31, e125_33, e125_34, e125_37, e125_40, e125_41, zU_app, zbI_some, zbV_some, Int.reduceToNat, Int.reduceLE, Int.reduceLT, Int.reduceEq, Nat.reduceEqDiff, and_self, and_true, true_and, and_false, false_and, if_true, if_false, ne_eq, not_true_eq_false, not_false_eq_true, reduceCtorEq, ht, q, a1, b1]
      rw [start]
      cases hr : one (cuN b T c) with
      | inl y =>
        rw [hr] at b3
        obtain ⟨z1, z2, z3⟩ := b3
        refine ⟨g2, 0, ?_, (a3.up (fun _ _ _ z => tk_pr z)).tr b2, rfl, z2, z3⟩
        rw [z1]
        simp only [e125_0, e125_1, e125_4, e125_7, e125_8, e125_10, e125_13, e125_14, e125_17, e125_18, e125_21, e125_22, e125_25, e125_28, e125_29, e125_30, e125_31, e125_33, e125_34, e125_37, e125_40, e125_41, zU_app, zbI_some, zbV_some, Int.reduceToNat, Int.reduceLE, Int.reduceLT, Int.reduceEq, Nat.reduceEqDiff, and_self, and_true, true_and, and_false, false_and, if_true, if_false, ne_eq, not_true_eq_false, not_false_eq_true, reduceCtorEq]
        simp
      | inr y =>
        rw [hr] at b3
        obtain ⟨z1, z2, z3, z4⟩ := b3
        obtain ⟨p1, p2, p3⟩ := ho _ n1 y.1 y.2 hr
        obtain ⟨g3, c1, c2, c3⟩ := m_lay (d + 7) 22 0 (s0 ++ s ++ y.2) g2 z3 (by have := p1.1; have := p1.2.1; rw [List.length_append]; omega)
        have hlen : (s0 ++ (s ++ y.2 ++ [((22 : Int), (0 : Int))])).length = (s0 ++ s).length + y.2.length + 1 := by simp; omega
        obtain ⟨g4, x', e1, e2, e3⟩ := ih y.1 (s ++ y.2 ++ [(22, 0)]) g3 (z2.ly c3) (by rw [← List.append_assoc, ← List.append_assoc]; exact c2) (by rw [hlen]; omega) (by have := p1.1; have := p1.2.1; omega) (by rw [c3 12 0 20 (by omega)]; exact z4)
        refine ⟨g4, x', ?_, ((a3.up (fun _ _ _ z => tk_pr z)).tr b2).tr ((c3.up (fun _ _ _ z => ly_pr z)).tr e2), e3⟩
        rw [← e1, z1]
        simp only [e125_0, e125_1, e125_4, e125_7, e125_8, e125_10, e125_13, e125_14, e125_17, e125_18, e125_21, e125_22, e125_25, e125_28, e125_29, e125_30, e125_31, e125_33, e125_34, e125_37, e125_40, e125_41, zU_app, zbI_some, zbV_some, Int.reduceToNat, Int.reduceLE, Int.reduceLT, Int.reduceEq, Nat.reduceEqDiff, and_self, and_true, true_and, and_false, false_and, if_true, if_false, ne_eq, not_true_eq_false, not_false_eq_true, reduceCtorEq, c1]
    · rw [if_neg q]
      refine ⟨g, 1, ?_, Fr.rf, rfl, h, hs, hd⟩
      rw [e125_9]
      simp only [e125_0, e125_1, e125_4, e125_7, e125_8, e125_10, e125_13, e125_14, e125_17, e125_18, e125_21, e125_22, e125_25, e125_28, e125_29, e125_30, e125_31, e125_33, e125_34, e125_37, e125_40, e125_41, zU_app, zbI_some, zbV_some, Int.reduceToNat, Int.reduceLE, Int.reduceLT, Int.reduceEq, Nat.reduceEqDiff, and_self, and_true, true_and, and_false, false_and, if_true, if_false, ne_eq, not_true_eq_false, not_false_eq_true, reduceCtorEq, ht]
      rw [if_pos q]
      simp
theorem m_any (d T F : Nat) (hF : 400 < F) (b : Nat → Int) (dp : Int) (one : (Int × Nat × Int × Nat) → ((Int × Nat) ⊕ ((Int × Nat × Int × Nat) × List (Int × Int)))) (ho : ∀ c, VC T c → Prg T c (one c)) (H : ∀ (c : (Int × Nat × Int × Nat)) (s0 : List (Int × Int)) (g : zG), MdAt g b T c → SlAt g s0 → s0.length ≤ c.2.1 → g 12 0 20 = dp → ∃ g' x, EvM (d + 7) 126 [.inr (12, 0)] g = some (some (.inl x), g') ∧ Fr sPr g g' ∧ Out g' b T s0 dp x (one c)) (c : (Int × Nat × Int × Nat)) (s0 : List (Int × Int)) (g : zG) (h : MdAt g b T c) (hs : SlAt g s0) (hl : s0.length ≤ c.2.1) (hd : g 12 0 20 = dp) : ∃ g' x, EvM (d + 8) 125 [.inr (12, 0)] g = some (some (.inl x), g') ∧ Fr sPr g g' ∧ Out g' b T s0 dp x (pJo (cuN b T) one 4 22 F c) := by
  have h4 := h.1.2.2
  obtain ⟨g1, x, a1, a2, a3⟩ := H c s0 g h hs hl hd
  unfold pJo
  cases hr : one c with
  | inl y =>
    rw [hr] at a3
    obtain ⟨z1, z2, z3⟩ := a3
    refine ⟨g1, 0, ?_, a2, rfl, z2, z3⟩
    rw [en125]
    simp only [e125_0, e125_1, e125_4, e125_7, e125_8, e125_10, e125_13, e125_14, e125_17, e125_18, e125_21, e125_22, e125_25, e125_28, e125_29, e125_30, e125_31, e125_33, e125_34, e125_37, e125_40, e125_41, zU_app, zbI_some, zbV_some, Int.reduceToNat, Int.reduceLE, Int.reduceLT, Int.reduceEq, Nat.reduceEqDiff, and_self, and_true, true_and, and_false, false_and, if_true, if_false, ne_eq, not_true_eq_false, not_false_eq_true, reduceCtorEq, a1, z1]
    simp
  | inr y =>
    rw [hr] at a3
    obtain ⟨z1, z2, z3, z4⟩ := a3
    obtain ⟨p1, p2, p3⟩ := ho c h.2.2.1 y.1 y.2 hr
    obtain ⟨g2, x', b1, b2, b3⟩ := m_anyL d T F b dp one ho H s0 F y.1 y.2 g1 z2 z3 (by rw [List.length_append]; omega) (by omega) z4
    refine ⟨g2, x', ?_, a2.tr b2, b3⟩
    rw [← b1, en125]
    simp only [e125_0, e125_1, e125_4, e125_7, e125_8, e125_10, e125_13, e125_14, e125_17, e125_18, e125_21, e125_22, e125_25, e125_28, e125_29, e125_30, e125_31, e125_33, e125_34, e125_37, e125_40, e125_41, zU_app, zbI_some, zbV_some, Int.reduceToNat, Int.reduceLE, Int.reduceLT, Int.reduceEq, Nat.reduceEqDiff, and_self, and_true, true_and, and_false, false_and, if_true, if_false, ne_eq, not_true_eq_false, not_false_eq_true, reduceCtorEq, a1, z1]
theorem m_need (d T : Nat) (b : Nat → Int) (c : (Int × Nat × Int × Nat)) (k : Int) (g : zG) (h : MdAt g b T c) : (c.1 = k ∧ ∃ g', EvM (d + 8) 129 [.inr (12, 0), .inl k] g = some (some (.inl 1), g') ∧ MdAt g' b T (cuN b T c) ∧ Fr sTk g g') ∨ (c.1 ≠ k ∧ EvM (d + 8) 129 [.inr (12, 0), .inl k] g = some (some (.inl 0), zU (zU g 12 0 17 1) 12 0 18 (c.2.1 : Int))) := by
  have ht := h.2.2.2.1
  by_cases q : c.1 = k
  · left
    refine ⟨q, ?_⟩
    obtain ⟨g1, a1, a2, a3⟩ := m_nx d T b c g h
    refine ⟨g1, ?_, a2, a3⟩
    rw [en129]
    simp only [e129_0, e129_1, e129_4, e129_5, e129_8, e129_9, e129_10, e129_13, e129_14, e129_15, e129_18, e129_19, zU_app, zbI_some, zbV_some, Int.reduceToNat, Int.reduceLE, Int.reduceLT, Int.reduceEq, Nat.reduceEqDiff, and_self, and_true, true_and, and_false, false_and, if_true, if_false, ne_eq, not_true_eq_false, not_false_eq_true, reduceCtorEq, ht, q, a1]
    simp
  · right
    refine ⟨q, ?_⟩
    rw [en129]
    simp only [e129_0, e129_1, e129_4, e129_5, e129_8, e129_9, e129_10, e129_13, e129_14, e129_15, e129_18, e129_19, zU_app, zbI_some, zbV_some, Int.reduceToNat, Int.reduceLE, Int.reduceLT, Int.reduceEq, Nat.reduceEqDiff, and_self, and_true, true_and, and_false, false_and, if_true, if_false, ne_eq, not_true_eq_false, not_false_eq_true, reduceCtorEq, ht, m_bad _ _ _ g h.2.2.2.2.1]
    rw [if_neg q]
    simp
theorem m_opensY (d T : Nat) (b : Nat → Int) (c : (Int × Nat × Int × Nat)) (n : Nat) (hn : n < 8) (g : zG) (h : MdAt g b T c) (hd : g 12 0 20 = (n : Int)) : ∃ g', EvM (d + 8) 128 [.inr (12, 0)] g = some (some (.inl 1), g') ∧ MdAt g' b T (cuN b T c) ∧ g' 12 0 20 = ((n + 1 : Nat) : Int) ∧ Fr (fun k j i => sTk k j i ∨ (k = 12 ∧ j = 0 ∧ i = 20)) g g' := by
  have h' : MdAt (zU g 12 0 20 ((n + 1 : Nat) : Int)) b T c := by
    obtain ⟨h1, h2, h3, h4, h5, h6, h7⟩ := h
    refine ⟨h1.u (by decide), ⟨h2.1, by rw [zU_ne (by omega)]; exact h2.2⟩, h3, ?_, ?_, ?_, ?_⟩
    · rw [zU_ne (by omega)]; exact h4
    · rw [zU_ne (by omega)]; exact h5
    · rw [zU_ne (by omega)]; exact h6
    · rw [zU_ne (by omega)]; exact h7
  obtain ⟨g1, a1, a2, a3⟩ := m_nx d T b c _ h'
  refine ⟨g1, ?_, a2, by rw [a3 12 0 20 (by simp [sTk]), zU_eq], ?_⟩
  · rw [en128]
    simp only [e128_0, e128_1, e128_4, e128_6, e128_9, e128_10, e128_11, e128_14, e128_15, e128_16, e128_17, e128_20, e128_21, e128_22, e128_25, e128_26, e128_29, e128_30, zU_app, zbI_some, zbV_some, Int.reduceToNat, Int.reduceLE, Int.reduceLT, Int.reduceEq, Nat.reduceEqDiff, and_self, and_true, true_and, and_false, false_and, if_true, if_false, ne_eq, not_true_eq_false, not_false_eq_true, reduceCtorEq, hd]
    rw [if_pos (by omega), zwr_id (by omega) (by omega), show (n : Int) + 1 = ((n + 1 : Nat) : Int) by omega, a1, zbV_some]
    simp
  · intro k j i hk
    rw [a3 k j i (fun z => hk (Or.inl z)), zU_ne (fun z => hk (Or.inr z))]
theorem m_opensN (d T : Nat) (b : Nat → Int) (c : (Int × Nat × Int × Nat)) (g : zG) (h : MdAt g b T c) (hd : g 12 0 20 = 8) : EvM (d + 8) 128 [.inr (12, 0)] g = some (some (.inl 0), zU (zU g 12 0 17 3) 12 0 18 (c.2.1 : Int)) := by
  rw [en128]
  simp only [e128_0, e128_1, e128_4, e128_6, e128_9, e128_10, e128_11, e128_14, e128_15, e128_16, e128_17, e128_20, e128_21, e128_22, e128_25, e128_26, e128_29, e128_30, zU_app, zbI_some, zbV_some, Int.reduceToNat, Int.reduceLE, Int.reduceLT, Int.reduceEq, Nat.reduceEqDiff, and_self, and_true, true_and, and_false, false_and, if_true, if_false, ne_eq, not_true_eq_false, not_false_eq_true, reduceCtorEq, hd, m_bad _ _ _ g h.2.2.2.2.1]
  simp
