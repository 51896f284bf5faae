/-! the model reads the lines -/
theorem pLine_prg {T F n : Nat} {nx : (Int × Nat × Int × Nat) → (Int × Nat × Int × Nat)} (hn : NxOk T nx) {c : (Int × Nat × Int × Nat)} (h : VC T c) {c' : (Int × Nat × Int × Nat)} {s t : List (Int × Int)} (e : pLine nx F n c = .inr (c', s, t)) : n ≠ 16 ∧ VC T c' ∧ c.2.1 + s.length + t.length ≤ c'.2.1 ∧ c.2.1 < c'.2.1 := by
  unfold pLine at e
  by_cases q : c.1 = 20
  · rw [if_pos q] at e
    by_cases q2 : n = 16
    · rw [if_pos q2] at e; cases e
    · rw [if_neg q2] at e
      refine ⟨q2, ?_⟩
      have hlt := h.2.2 (by omega)
      obtain ⟨n1, n2⟩ := hn c h
      cases hr : pSum nx F (nx c) with
      | inl y => rw [hr] at e; cases e
      | inr y =>
        rw [hr] at e
        obtain ⟨c1, s1⟩ := y
        obtain ⟨p1, p2, p3⟩ := pSum_prg hn n1 c1 s1 hr
        have e : (match pWhen nx F c1 with | .inl e => .inl e | .inr (c2, t) => if c2.1 = 159 then .inr (nx c2, s1, t) else .inl (1, c2.2.1) : ((Int × Nat) ⊕ ((Int × Nat × Int × Nat) × List (Int × Int) × List (Int × Int)))) = .inr (c', s, t) := e
        have key : ∀ c2 t2, pWhen nx F c1 = .inr (c2, t2) → VC T c2 ∧ c1.2.1 + t2.length ≤ c2.2.1 := by
          intro c2 t2 e2
          unfold pWhen at e2
          by_cases q3 : c1.1 = 3
          · rw [if_pos q3] at e2
            have := p1.2.2 (by omega)
            obtain ⟨n3, n4⟩ := hn c1 p1
            obtain ⟨r1, r2, r3⟩ := pAny_prg hn n3 c2 t2 e2
            exact ⟨r1, by omega⟩
          · rw [if_neg q3] at e2
            cases e2
            exact ⟨p1, by simp⟩
        cases hw : pWhen nx F c1 with
        | inl y => rw [hw] at e; cases e
        | inr y =>
          rw [hw] at e
          obtain ⟨c2, t2⟩ := y
          obtain ⟨k1, k2⟩ := key c2 t2 hw
          have e : (if c2.1 = 159 then .inr (nx c2, s1, t2) else .inl (1, c2.2.1) : ((Int × Nat) ⊕ ((Int × Nat × Int × Nat) × List (Int × Int) × List (Int × Int)))) = .inr (c', s, t) := e
          by_cases q4 : c2.1 = 159
          · rw [if_pos q4] at e
            have := k1.2.2 (by omega)
            obtain ⟨n5, n6⟩ := hn c2 k1
            cases e
            exact ⟨n5, by omega, by omega⟩
          · rw [if_neg q4] at e; cases e
  · rw [if_neg q] at e; cases e
def pText (nx : (Int × Nat × Int × Nat) → (Int × Nat × Int × Nat)) (F : Nat) : Nat → (Int × Nat × Int × Nat) → List (List (Int × Int) × List (Int × Int)) → ((Int × Nat) ⊕ (List (List (Int × Int) × List (Int × Int))))
  | 0, _, ls => .inr ls
  | m + 1, c, ls => if c.1 = 0 then .inr ls else
    match pLine nx F ls.length c with
    | .inl e => .inl e
    | .inr q => pText nx F m q.1 (ls ++ [q.2])
def flt (ls : List (List (Int × Int) × List (Int × Int))) : List (Int × Int) := ls.flatMap (fun l => l.1 ++ l.2)
theorem flt_ad (ls : List (List (Int × Int) × List (Int × Int))) (l : (List (Int × Int) × List (Int × Int))) : flt (ls ++ [l]) = flt ls ++ l.1 ++ l.2 := by
  unfold flt
  rw [List.flatMap_append]
  simp [List.append_assoc]
def FlAt (g : zG) (ls : List (List (Int × Int) × List (Int × Int))) : Prop := ∀ k, k < ls.length → g 49 0 (3 * k) = ((flt (ls.take k)).length : Int) ∧ g 49 0 (3 * k + 1) = ((flt (ls.take k) ++ (ls.getD k ([], [])).1).length : Int) ∧ g 49 0 (3 * k + 2) = ((flt (ls.take (k + 1))).length : Int)
theorem FlAt.ad {g g' : zG} {ls : List (List (Int × Int) × List (Int × Int))} {l : (List (Int × Int) × List (Int × Int))} (h : FlAt g ls) (h0 : g' 49 0 (3 * ls.length) = ((flt ls).length : Int)) (h1 : g' 49 0 (3 * ls.length + 1) = ((flt ls ++ l.1).length : Int)) (h2 : g' 49 0 (3 * ls.length + 2) = ((flt ls ++ l.1 ++ l.2).length : Int)) (ho : ∀ i, ¬ (3 * ls.length ≤ i ∧ i ≤ 3 * ls.length + 2) → g' 49 0 i = g 49 0 i) : FlAt g' (ls ++ [l]) := by
  intro k hk
  rw [List.length_append, List.length_singleton] at hk
  by_cases e : k = ls.length
  · subst e
    have t1 : (ls ++ [l]).take ls.length = ls := by rw [List.take_append_of_le_length (Nat.le_refl _), List.take_length]
    have t2 : (ls ++ [l]).take (ls.length + 1) = ls ++ [l] := List.take_of_length_le (by simp)
    have t3 : (ls ++ [l]).getD ls.length ([], []) = l := by
      rw [List.getD_eq_getElem?_getD, List.getElem?_append_right (Nat.le_refl _)]
      simp
    rw [t1, t2, t3, flt_ad]
    exact ⟨h0, h1, h2⟩
  · have hk : k < ls.length := by omega
    have t1 : (ls ++ [l]).take k = ls.take k := List.take_append_of_le_length (by omega)
    have t2 : (ls ++ [l]).take (k + 1) = ls.take (k + 1) := List.take_append_of_le_length (by omega)
    have t3 : (ls ++ [l]).getD k ([], []) = ls.getD k ([], []) := by
      rw [List.getD_eq_getElem?_getD, List.getElem?_append_left hk, ← List.getD_eq_getElem?_getD]
    rw [t1, t2, t3, ho _ (by omega), ho _ (by omega), ho _ (by omega)]
    exact h k hk
def sTx : Nat → Nat → Nat → Prop := fun k j i => sLi k j i ∨ (k = 12 ∧ j = 0 ∧ i = 10)
def OutT (g' : zG) (b : Nat → Int) (T : Nat) (x : Int) (r : ((Int × Nat) ⊕ (List (List (Int × Int) × List (Int × Int))))) : Prop :=
  match r with
  | .inl q => x = 0 ∧ g' 12 0 17 = q.1 ∧ g' 12 0 18 = (q.2 : Int)
  | .inr ls => x = 1 ∧ g' 12 0 17 = 0 ∧ SlAt g' (flt ls) ∧ FlAt g' ls ∧ g' 12 0 10 = (ls.length : Int) ∧ ls.length ≤ 16 ∧ (flt ls).length ≤ 400
theorem MdAt.ln {g : zG} {b : Nat → Int} {T : Nat} {c : (Int × Nat × Int × Nat)} {x : Int} (h : MdAt g b T c) : MdAt (zU g 12 0 10 x) b T c := by
  obtain ⟨h1, h2, h3, h4, h5, h6, h7⟩ := h
  refine ⟨h1.u (by decide), ⟨h2.1, by rw [zU_ne (by omega)]; exact h2.2⟩, h3, ?_, ?_, ?_, ?_⟩
  · rw [zU_ne (by omega)]; exact h4
  · rw [zU_ne (by omega)]; exact h5
  · rw [zU_ne (by omega)]; exact h6
  · rw [zU_ne (by omega)]; exact h7
theorem m_textL (d T F : Nat) (hF : 400 < F) (b : Nat → Int) (u : Option zV) : ∀ (m : Nat) (c : (Int × Nat × Int × Nat)) (ls : List (List (Int × Int) × List (Int × Int))) (g : zG), MdAt g b T c → SlAt g (flt ls) → FlAt g ls → g 12 0 10 = (ls.length : Int) → ls.length ≤ 16 → (flt ls).length ≤ c.2.1 → T - c.2.1 < m → ∃ g' x, Ev (d + 39) 111 26 [some (.inr (12, 0)), some (.inl 1), u] [] g = Ev (d + 39) 111 63 [some (.inr (12, 0)), some (.inl x), u] [] g' ∧ Fr sTx g g' ∧ OutT g' b T x (pText (cuN b T) F m c ls) := by
  intro m
  induction m with
  | zero => intro c ls g h hs hf hln h16 hl hm; omega
  | succ m ih =>
    intro c ls g h hs hf hln h16 hl hm
    have h4 := h.1.2.2
    have hv := h.2.2.1
    have ht := h.2.2.2.1
    rw [pText]
    by_cases q : c.1 = 0
    · rw [if_pos q]
      refine ⟨g, 1, ?_, Fr.rf, rfl, h.2.1.2, hs, hf, hln, h16, by have := hv.1; have := hv.2.1; omega⟩
      rw [e111_26]
      simp only [e111_0, e111_1, e111_2, e111_5, e111_6, e111_7, e111_10, e111_11, e111_12, e111_15, e111_16, e111_17, e111_20, e111_21, e111_24, e111_25, e111_27, e111_30, e111_31, e111_34, e111_37, e111_38, e111_41, e111_42, e111_43, e111_44, e111_47, e111_48, e111_51, e111_52, e111_55, e111_56, e111_57, e111_60, e111_64, e111_65, e111_68, e111_69, e111_70, e111_73, e111_76, e111_77, e111_78, e111_81, e111_82, e111_85, e111_86, e111_89, e111_92, e111_93, e111_96, e111_97, e111_98, e111_99, e111_102, e111_105, e111_106, e111_109, e111_110, e111_111, e111_113, e111_114, e111_117, e111_120, e111_121, e111_124, e111_127, e111_128, e111_129, e111_130, e111_133, e111_134, e111_135, e111_136, e111_137, e111_138, e111_139, e111_142, e111_145, e111_146, e111_147, e111_148, e111_151, e111_152, e111_153, e111_154, e111_155, e111_156, e111_157, e111_158, e111_159, e111_162, e111_165, e111_166, e111_167, e111_168, e111_171, e111_172, e111_173, e111_174, e111_175, e111_176, e111_177, e111_178, e111_181, e111_184, e111_185, e111_187, e111_188, e111_189, e111_192, e111_193, e111_196, e111_197, e111_200, e111_203, e111_204, e111_205, e111_206, e111_209, e111_210, e111_211, e111_212, e111_215, e111_218, e111_219, e111_222, zU_app, zbI_some, zbV_some, Int.reduceToNat, Int.reduceLE, Int.reduceLT, Int.reduceEq, Nat.reduceEqDiff, and_self, and_true, true_and, and_false, false_and, if_true, if_false, ne_eq, not_true_eq_false, not_false_eq_true, reduceCtorEq, ht, q]
    · rw [if_neg q]
      obtain ⟨g1, x, a1, a2, a3⟩ := m_aLine d T F hF b c (flt ls) ls.length h16 g h hs hl hln
      have l1 : g1 12 0 10 = (ls.length : Int) := by rw [a2 12 0 10 (by simp [sLi, sPr])]; exact hln
      have start : Ev (d + 39) 111 26 [some (.inr (12, 0)), some (.inl 1), u] [] g = Ev (d + 39) 111 42 [some (.inr (12, 0)), some (.inl x), u] [] g1 := by
        rw [e111_26]
        simp only [e111_0, e111_1, e111_2, e111_5, e111_6, e111_7, e111_10, e111_11, e111_12, e111_15, e111_16, e111_17, e111_20, e111_21, e111_24, e111_25, e111_27, e111_30, e111_31, e111_34, e111_37, e111_38, e111_41, e111_43, e111_44, e111_47, e111_48, e111_51, e111_52, e111_55, e111_56, e111_57, e111_60, e111_64, e111_65, e111_68, e111_69, e111_70, e111_73, e111_76, e111_77, e111_78, e111_81, e111_82, e111_85, e111_86, e111_89, e111_92, e111_93, e111_96, e111_97, e111_98, e111_99, e111_102, e111_105, e111_106, e111_109, e111_110, e111_111, e111_113, e111_114, e111_117, e111_120, e111_121, e111_124, e111_127, e111_128, e111_129, e111_130, e111_133, e111_134, e111_135, e111_136, e111_137, e111_138, e111_139, e111_142, e111_145, e111_146, e111_147, e111_148, e111_151, e111_152, e111_153, e111_154, e111_155, e111_156, e111_157, e111_158, e111_159, e111_162, e111_165, e111_166, e111_167, e111_168, e111_171, e111_172, e111_173, e111_174, e111_175, e111_176, e111_177, e111_178, e111_181, e111_184, e111_185, e111_187, e111_188, e111_189, e111_192, e111_193, e111_196, e111_197, e111_200, e111_203, e111_204, e111_205, e111_206, e111_209, e111_210, e111_211, e111_212, e111_215, e111_218, e111_219, e111_222, zU_app, zbI_some, zbV_some, Int.reduceToNat, Int.reduceLE, Int.reduceLT, Int.reduceEq, Nat.reduceEqDiff, and_self, and_true, true_and, and_false, false_and, if_true, if_false, ne_eq, not_true_eq_false, not_false_eq_true, reduceCtorEq, ht, a1]
        rw [if_neg q]
      rw [start]
      cases hr : pLine (cuN b T) F ls.length c with
      | inl y =>
        rw [hr] at a3
        obtain ⟨z1, z2, z3⟩ := a3
        refine ⟨zU g1 12 0 10 (ls.length : Int), 0, ?_, (a2.up (fun _ _ _ z => Or.inl z)).tr (Fr.u (Or.inr ⟨rfl, rfl, rfl⟩)), rfl, by rw [zU_ne (by omega)]; exact z2, by rw [zU_ne (by omega)]; exact z3⟩
        simp only [e111_0, e111_1, e111_2, e111_5, e111_6, e111_7, e111_10, e111_11, e111_12, e111_15, e111_16, e111_17, e111_20, e111_21, e111_24, e111_25, e111_27, e111_30, e111_31, e111_34, e111_37, e111_38, e111_41, e111_42, e111_43, e111_44, e111_47, e111_48, e111_51, e111_52, e111_55, e111_56, e111_57, e111_60, e111_64, e111_65, e111_68, e111_69, e111_70, e111_73, e111_76, e111_77, e111_78, e111_81, e111_82, e111_85, e111_86, e111_89, e111_92, e111_93, e111_96, e111_97, e111_98, e111_99, e111_102, e111_105, e111_106, e111_109, e111_110, e111_111, e111_113, e111_114, e111_117, e111_120, e111_121, e111_124, e111_127, e111_128, e111_129, e111_130, e111_133, e111_134, e111_135, e111_136, e111_137, e111_138, e111_139, e111_142, e111_145, e111_146, e111_147, e111_148, e111_151, e111_152, e111_153, e111_154, e111_155, e111_156, e111_157, e111_158, e111_159, e111_162, e111_165, e111_166, e111_167, e111_168, e111_171, e111_172, e111_173, e111_174, e111_175, e111_176, e111_177, e111_178, e111_181, e111_184, e111_185, e111_187, e111_188, e111_189, e111_192, e111_193, e111_196, e111_197, e111_200, e111_203, e111_204, e111_205, e111_206, e111_209, e111_210, e111_211, e111_212, e111_215, e111_218, e111_219, e111_222, zU_app, zbI_some, zbV_some, Int.reduceToNat, Int.reduceLE, Int.reduceLT, Int.reduceEq, Nat.reduceEqDiff, and_self, and_true, true_and, and_false, false_and, if_true, if_false, ne_eq, not_true_eq_false, not_false_eq_true, reduceCtorEq, z1, l1]
        rw [zwr_id (by omega) (by omega), e111_26]
        simp only [e111_0, e111_1, e111_2, e111_5, e111_6, e111_7, e111_10, e111_11, e111_12, e111_15, e111_16, e111_17, e111_20, e111_21, e111_24, e111_25, e111_27, e111_30, e111_31, e111_34, e111_37, e111_38, e111_41, e111_42, e111_43, e111_44, e111_47, e111_48, e111_51, e111_52, e111_55, e111_56, e111_57, e111_60, e111_64, e111_65, e111_68, e111_69, e111_70, e111_73, e111_76, e111_77, e111_78, e111_81, e111_82, e111_85, e111_86, e111_89, e111_92, e111_93, e111_96, e111_97, e111_98, e111_99, e111_102, e111_105, e111_106, e111_109, e111_110, e111_111, e111_113, e111_114, e111_117, e111_120, e111_121, e111_124, e111_127, e111_128, e111_129, e111_130, e111_133, e111_134, e111_135, e111_136, e111_137, e111_138, e111_139, e111_142, e111_145, e111_146, e111_147, e111_148, e111_151, e111_152, e111_153, e111_154, e111_155, e111_156, e111_157, e111_158, e111_159, e111_162, e111_165, e111_166, e111_167, e111_168, e111_171, e111_172, e111_173, e111_174, e111_175, e111_176, e111_177, e111_178, e111_181, e111_184, e111_185, e111_187, e111_188, e111_189, e111_192, e111_193, e111_196, e111_197, e111_200, e111_203, e111_204, e111_205, e111_206, e111_209, e111_210, e111_211, e111_212, e111_215, e111_218, e111_219, e111_222, zU_app, zbI_some, zbV_some, Int.reduceToNat, Int.reduceLE, Int.reduceLT, Int.reduceEq, Nat.reduceEqDiff, and_self, and_true, true_and, and_false, false_and, if_true, if_false, ne_eq, not_true_eq_false, not_false_eq_true, reduceCtorEq]
        rw [show (ls.length : Int) + 0 = (ls.length : Int) by omega]
      | inr y =>
        rw [hr] at a3
        obtain ⟨c', l⟩ := y
        obtain ⟨z1, z2, z3, z4, z5, z6, z7⟩ := a3
        obtain ⟨p0, p1, p2, p3⟩ := pLine_prg (cuN_nx b T) hv (c' := c') (s := l.1) (t := l.2) hr
        have hfl : FlAt (zU g1 12 0 10 ((ls.length + 1 : Nat) : Int)) (ls ++ [l]) := hf.ad (by rw [zU_ne (by omega)]; exact z4) (by rw [zU_ne (by omega)]; exact z5) (by rw [zU_ne (by omega)]; exact z6) (fun i hi => by rw [zU_ne (by omega)]; exact z7 i hi)
        have hsl : SlAt (zU g1 12 0 10 ((ls.length + 1 : Nat) : Int)) (flt (ls ++ [l])) := by
          rw [flt_ad]
          exact SlAt.fr z3 (zU_ne (by omega)) (zU_fn (by omega))
        obtain ⟨g2, x', b1, b2, b3⟩ := ih c' (ls ++ [l]) (zU g1 12 0 10 ((ls.length + 1 : Nat) : Int)) z2.ln hsl hfl (by rw [zU_eq, List.length_append]; rfl) (by rw [List.length_append, List.length_singleton]; omega) (by rw [flt_ad, List.length_append, List.length_append]; omega) (by have := p1.1; have := p1.2.1; omega)
        refine ⟨g2, x', ?_, ((a2.up (fun _ _ _ z => Or.inl z)).tr (Fr.u (Or.inr ⟨rfl, rfl, rfl⟩))).tr b2, b3⟩
        rw [← b1]
        simp only [e111_0, e111_1, e111_2, e111_5, e111_6, e111_7, e111_10, e111_11, e111_12, e111_15, e111_16, e111_17, e111_20, e111_21, e111_24, e111_25, e111_27, e111_30, e111_31, e111_34, e111_37, e111_38, e111_41, e111_42, e111_43, e111_44, e111_47, e111_48, e111_51, e111_52, e111_55, e111_56, e111_57, e111_60, e111_64, e111_65, e111_68, e111_69, e111_70, e111_73, e111_76, e111_77, e111_78, e111_81, e111_82, e111_85, e111_86, e111_89, e111_92, e111_93, e111_96, e111_97, e111_98, e111_99, e111_102, e111_105, e111_106, e111_109, e111_110, e111_111, e111_113, e111_114, e111_117, e111_120, e111_121, e111_124, e111_127, e111_128, e111_129, e111_130, e111_133, e111_134, e111_135, e111_136, e111_137, e111_138, e111_139, e111_142, e111_145, e111_146, e111_147, e111_148, e111_151, e111_152, e111_153, e111_154, e111_155, e111_156, e111_157, e111_158, e111_159, e111_162, e111_165, e111_166, e111_167, e111_168, e111_171, e111_172, e111_173, e111_174, e111_175, e111_176, e111_177, e111_178, e111_181, e111_184, e111_185, e111_187, e111_188, e111_189, e111_192, e111_193, e111_196, e111_197, e111_200, e111_203, e111_204, e111_205, e111_206, e111_209, e111_210, e111_211, e111_212, e111_215, e111_218, e111_219, e111_222, zU_app, zbI_some, zbV_some, Int.reduceToNat, Int.reduceLE, Int.reduceLT, Int.reduceEq, Nat.reduceEqDiff, and_self, and_true, true_and, and_false, false_and, if_true, if_false, ne_eq, not_true_eq_false, not_false_eq_true, reduceCtorEq, z1, l1]
        rw [zwr_id (by omega) (by omega)]
        rfl
