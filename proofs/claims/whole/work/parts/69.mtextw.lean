/-! the model's text, the whole -/
def LwAt (w : Nat → Int) (ls : List (List (Int × Int) × List (Int × Int))) : Prop := w 485 = (ls.length : Int) ∧ (∀ k, k < ls.length → w (490 + k) = ((flt (ls.take k)).length : Int) ∧ w (510 + k) = ((flt (ls.take k) ++ (ls.getD k ([], [])).1).length : Int) ∧ w (530 + k) = ((flt (ls.take (k + 1))).length : Int)) ∧ ∀ i, i < (flt ls).length → w (550 + 2 * i) = ((flt ls).getD i (0, 0)).1 ∧ w (550 + 2 * i + 1) = ((flt ls).getD i (0, 0)).2
def aText (b : Nat → Int) (T F : Nat) (v : Int) : ((Int × Nat) ⊕ (List (List (Int × Int) × List (Int × Int)))) := pText (cuN b T) F F (cuN b T (0, 0, v, 0)) []
def tRes : ((Int × Nat) ⊕ (List (List (Int × Int) × List (Int × Int)))) → Int
  | .inl _ => -1
  | .inr ls => (ls.length : Int)
def OutW (g' : zG) (w : Nat → Int) (r : ((Int × Nat) ⊕ (List (List (Int × Int) × List (Int × Int))))) : Prop :=
  match r with
  | .inl q => g' 46 0 = w ∧ g' 12 0 19 = q.1 ∧ g' 12 0 21 = (q.2 : Int)
  | .inr ls => LwAt (g' 46 0) ls ∧ (∀ i, i < 485 → g' 46 0 i = w i) ∧ ls.length ≤ 16 ∧ (flt ls).length ≤ 400 ∧ g' 12 0 19 = 0 ∧ g' 12 0 21 = -1
def sTe : Nat → Nat → Nat → Prop := fun k j i => sTx k j i ∨ (k = 46 ∧ j = 0) ∨ (k = 12 ∧ j = 0 ∧ (i = 12 ∨ i = 19 ∨ i = 21))
theorem m_text0 (d T F : Nat) (hF : 400 < F) (b : Nat → Int) (v : Int) (g : zG) (hT : TaAt g b T) (hB : ByOk b T) (hv : g 12 0 16 = v) : ∃ g' x, EvM (d + 39) 111 [.inr (12, 0)] g = Ev (d + 39) 111 63 [some (.inr (12, 0)), some (.inl x), none] [] g' ∧ Fr sTx g g' ∧ OutT g' b T x (aText b T F v) := by
  have h4 := hT.2.2
  have T1 : TaAt (zU (zU (zU (zU g 12 0 17 0) 12 0 13 0) 12 0 10 0) 12 0 11 0) b T := (((hT.u (by decide)).u (by decide)).u (by decide)).u (by decide)
  have f1 : Fr sTx g (zU (zU (zU (zU g 12 0 17 0) 12 0 13 0) 12 0 10 0) 12 0 11 0) := (((Fr.u (by simp [sTx, sLi, sPr])).tr (Fr.u (by simp [sTx, sLi, sPr]))).tr (Fr.u (by simp [sTx]))).tr (Fr.u (by simp [sTx, sLi, sPr]))
  have a13 : zU (zU (zU (zU g 12 0 17 0) 12 0 13 0) 12 0 10 0) 12 0 11 0 12 0 13 = ((0 : Nat) : Int) := rfl
  have a16 : zU (zU (zU (zU g 12 0 17 0) 12 0 13 0) 12 0 10 0) 12 0 11 0 12 0 16 = v := by
    rw [zU_ne (by omega), zU_ne (by omega), zU_ne (by omega), zU_ne (by omega)]; exact hv
  have a10 : zU (zU (zU (zU g 12 0 17 0) 12 0 13 0) 12 0 10 0) 12 0 11 0 12 0 10 = 0 := rfl
  have a11 : zU (zU (zU (zU g 12 0 17 0) 12 0 13 0) 12 0 10 0) 12 0 11 0 12 0 11 = 0 := rfl
  have a17 : zU (zU (zU (zU g 12 0 17 0) 12 0 13 0) 12 0 10 0) 12 0 11 0 12 0 17 = 0 := rfl
  have start : EvM (d + 39) 111 [.inr (12, 0)] g = zbV (EvM (d + 38) 112 [.inr (12, 0)] (zU (zU (zU (zU g 12 0 17 0) 12 0 13 0) 12 0 10 0) 12 0 11 0)) (fun g2 => Ev (d + 39) 111 26 [some (.inr (12, 0)), some (.inl 1), none] [] g2) := by
    rw [en111]
    simp only [e111_0, e111_1, e111_2, e111_5, e111_6, e111_7, e111_10, e111_11, e111_12, e111_15, e111_16, e111_17, e111_20, e111_21, e111_24, e111_25, e111_27, e111_30, e111_31, e111_34, e111_37, e111_38, e111_41, e111_42, e111_43, e111_44, e111_47, e111_48, e111_51, e111_52, e111_55, e111_56, e111_57, e111_60, e111_63, e111_64, e111_65, e111_68, e111_69, e111_70, e111_73, e111_76, e111_77, e111_78, e111_81, e111_82, e111_85, e111_86, e111_89, e111_92, e111_93, e111_96, e111_97, e111_98, e111_99, e111_102, e111_105, e111_106, e111_109, e111_110, e111_111, e111_113, e111_114, e111_117, e111_120, e111_121, e111_124, e111_127, e111_128, e111_129, e111_130, e111_133, e111_134, e111_135, e111_136, e111_137, e111_138, e111_139, e111_142, e111_145, e111_146, e111_147, e111_148, e111_151, e111_152, e111_153, e111_154, e111_155, e111_156, e111_157, e111_158, e111_159, e111_162, e111_165, e111_166, e111_167, e111_168, e111_171, e111_172, e111_173, e111_174, e111_175, e111_176, e111_177, e111_178, e111_181, e111_184, e111_185, e111_187, e111_188, e111_189, e111_192, e111_193, e111_196, e111_197, e111_200, e111_203, e111_204, e111_205, e111_206, e111_209, e111_210, e111_211, e111_212, e111_215, e111_218, e111_219, e111_222]
  generalize zU (zU (zU (zU g 12 0 17 0) 12 0 13 0) 12 0 10 0) 12 0 11 0 = g1 at *
  have hn := m_next0 (d + 31) T 0 b v g1 T1 hB a13 (by omega) a16
  have hn' : EvM (d + 38) 112 [.inr (12, 0)] g1 = some (none, tkU g1 (enT b T 0) (toT b T 0) (taT b T 0) (vaT b T 0 v)) := hn
  have fr := tkU_fr g1 (enT b T 0) (toT b T 0) (taT b T 0) (vaT b T 0 v)
  have v0 : VC T ((0, 0, v, 0) : (Int × Nat × Int × Nat)) := ⟨Nat.le_refl _, Nat.zero_le _, fun q => absurd rfl q⟩
  have md : MdAt (tkU g1 (enT b T 0) (toT b T 0) (taT b T 0) (vaT b T 0 v)) b T (cuN b T (0, 0, v, 0)) := by
    refine ⟨⟨(fr.fn (fun i => by simp [sTk])).trans T1.1, by rw [fr 12 0 12 (by simp [sTk])]; exact T1.2.1, h4⟩, ⟨hB, by rw [fr 12 0 17 (by simp [sTk])]; exact a17⟩, (cuN_ok v0).1, rfl, rfl, rfl, rfl⟩
  obtain ⟨g2, x, b1, b2, b3⟩ := m_textL d T F hF b none F (cuN b T (0, 0, v, 0)) [] _ md ⟨by rw [fr 12 0 11 (by simp [sTk])]; exact a11, fun k hk => by cases hk⟩ (fun k hk => by cases hk) (by rw [fr 12 0 10 (by simp [sTk])]; exact a10) (by simp) (by simp [flt]) (by omega)
  refine ⟨g2, x, ?_, (f1.tr (fr.up (fun _ _ _ z => Or.inl (Or.inl (tk_pr z))))).tr b2, b3⟩
  rw [start, hn', zbV_some]
  exact b1
theorem m_text {w : Nat → Int} (d T F : Nat) (hF : 400 < F) (b : Nat → Int) (v : Int) (g : zG) (hw : g 46 0 = w) (hT : TaAt g b T) (hB : ByOk b T) (hv : g 12 0 16 = v) : ∃ g', EvM (d + 39) 111 [.inr (12, 0)] g = some (some (.inl (tRes (aText b T F v))), g') ∧ OutW g' w (aText b T F v) ∧ g' 12 0 12 = 0 ∧ Fr sTe g g' := by
  obtain ⟨g1, x, a1, a2, a3⟩ := m_text0 d T F hF b v g hT hB hv
  rw [a1]
  have r1 : g1 46 0 = w := (a2.fn (fun i => by simp [sTx, sLi, sPr])).trans hw
  cases hr : aText b T F v with
  | inl y =>
    rw [hr] at a3
    obtain ⟨z1, z2, z3⟩ := a3
    refine ⟨zU (zU (zU g1 12 0 12 0) 12 0 19 y.1) 12 0 21 (y.2 : Int), ?_, ⟨?_, ?_, ?_⟩, ?_, ?_⟩
    · have e1 : zU g1 12 0 12 0 12 0 17 = y.1 := by rw [zU_ne (by omega)]; exact z2
      have e2 : zU (zU g1 12 0 12 0) 12 0 19 y.1 12 0 18 = (y.2 : Int) := by rw [zU_ne (by omega), zU_ne (by omega)]; exact z3
      simp only [e111_0, e111_1, e111_2, e111_5, e111_6, e111_7, e111_10, e111_11, e111_12, e111_15, e111_16, e111_17, e111_20, e111_21, e111_24, e111_25, e111_27, e111_30, e111_31, e111_34, e111_37, e111_38, e111_41, e111_42, e111_43, e111_44, e111_47, e111_48, e111_51, e111_52, e111_55, e111_56, e111_57, e111_60, e111_63, e111_64, e111_65, e111_68, e111_69, e111_70, e111_73, e111_76, e111_77, e111_78, e111_81, e111_82, e111_85, e111_86, e111_89, e111_92, e111_93, e111_96, e111_97, e111_98, e111_99, e111_102, e111_105, e111_106, e111_109, e111_110, e111_111, e111_113, e111_114, e111_117, e111_120, e111_121, e111_124, e111_127, e111_128, e111_129, e111_130, e111_133, e111_134, e111_135, e111_136, e111_137, e111_138, e111_139, e111_142, e111_145, e111_146, e111_147, e111_148, e111_151, e111_152, e111_153, e111_154, e111_155, e111_156, e111_157, e111_158, e111_159, e111_162, e111_165, e111_166, e111_167, e111_168, e111_171, e111_172, e111_173, e111_174, e111_175, e111_176, e111_177, e111_178, e111_181, e111_184, e111_185, e111_187, e111_188, e111_189, e111_192, e111_193, e111_196, e111_197, e111_200, e111_203, e111_204, e111_205, e111_206, e111_209, e111_210, e111_211, e111_212, e111_215, e111_218, e111_219, e111_222, z1, e1, e2, if_true, ne_eq, not_true_eq_false, if_false]
      rfl
    · rw [zU_fn (by omega), zU_fn (by omega), zU_fn (by omega)]; exact r1
    · rw [zU_ne (by omega), zU_eq]
    · rw [zU_eq]
    · rw [zU_ne (by omega), zU_ne (by omega), zU_eq]
    · exact (a2.up (fun _ _ _ z => Or.inl z)).tr (((Fr.u (by simp [sTe])).tr (Fr.u (by simp [sTe]))).tr (Fr.u (by simp [sTe])))
  | inr ls =>
    rw [hr] at a3
    obtain ⟨z1, z2, z3, z4, z5, z6, z7⟩ := a3
    have e1 : zU g1 12 0 12 0 12 0 17 = 0 := by rw [zU_ne (by omega)]; exact z2
    have f3 : Fr (fun k j i => k = 12 ∧ j = 0 ∧ (i = 12 ∨ i = 19 ∨ i = 21)) g1 (zU (zU (zU g1 12 0 12 0) 12 0 19 0) 12 0 21 (-1)) := ((Fr.u (by simp)).tr (Fr.u (by simp))).tr (Fr.u (by simp))
    have k12 : zU (zU (zU g1 12 0 12 0) 12 0 19 0) 12 0 21 (-1) 12 0 12 = 0 := rfl
    have k19 : zU (zU (zU g1 12 0 12 0) 12 0 19 0) 12 0 21 (-1) 12 0 19 = 0 := rfl
    have k21 : zU (zU (zU g1 12 0 12 0) 12 0 19 0) 12 0 21 (-1) 12 0 21 = -1 := rfl
    have st : Ev (d + 39) 111 63 [some (.inr (12, 0)), some (.inl x), none] [] g1 = Ev (d + 39) 111 98 [some (.inr (12, 0)), some (.inl 1), none] [] (zU (zU (zU g1 12 0 12 0) 12 0 19 0) 12 0 21 (-1)) := by
      simp only [e111_0, e111_1, e111_2, e111_5, e111_6, e111_7, e111_10, e111_11, e111_12, e111_15, e111_16, e111_17, e111_20, e111_21, e111_24, e111_25, e111_27, e111_30, e111_31, e111_34, e111_37, e111_38, e111_41, e111_42, e111_43, e111_44, e111_47, e111_48, e111_51, e111_52, e111_55, e111_56, e111_57, e111_60, e111_63, e111_64, e111_65, e111_68, e111_69, e111_70, e111_73, e111_76, e111_77, e111_78, e111_81, e111_82, e111_85, e111_86, e111_89, e111_92, e111_93, e111_96, e111_97, e111_99, e111_102, e111_105, e111_106, e111_109, e111_110, e111_111, e111_113, e111_114, e111_117, e111_120, e111_121, e111_124, e111_127, e111_128, e111_129, e111_130, e111_133, e111_134, e111_135, e111_136, e111_137, e111_138, e111_139, e111_142, e111_145, e111_146, e111_147, e111_148, e111_151, e111_152, e111_153, e111_154, e111_155, e111_156, e111_157, e111_158, e111_159, e111_162, e111_165, e111_166, e111_167, e111_168, e111_171, e111_172, e111_173, e111_174, e111_175, e111_176, e111_177, e111_178, e111_181, e111_184, e111_185, e111_187, e111_188, e111_189, e111_192, e111_193, e111_196, e111_197, e111_200, e111_203, e111_204, e111_205, e111_206, e111_209, e111_210, e111_211, e111_212, e111_215, e111_218, e111_219, e111_222, z1, e1, zU_app, zbI_some, zbV_some, Int.reduceToNat, Int.reduceLE, Int.reduceLT, Int.reduceEq, Nat.reduceEqDiff, and_self, and_true, true_and, and_false, false_and, if_true, if_false, ne_eq, not_true_eq_false, not_false_eq_true, reduceCtorEq]
    rw [st]
    generalize zU (zU (zU g1 12 0 12 0) 12 0 19 0) 12 0 21 (-1) = g3 at *
    have r3 : g3 46 0 = w := (f3.fn (fun i => by omega)).trans r1
    have l3 : g3 12 0 10 = (ls.length : Int) := by rw [f3 12 0 10 (by omega)]; exact z5
    have s3 : g3 12 0 11 = ((flt ls).length : Int) := by rw [f3 12 0 11 (by omega)]; exact z3.1
    obtain ⟨w1, b1, b2, b3⟩ := m_txL1 (d + 39) ls.length z6 1 g3 l3 ls.length 0 (uW w 485 (ls.length : Int)) (by omega)
    obtain ⟨w2, c1, c2⟩ := m_txL2 (d + 39) ls.length (flt ls).length z7 1 g3 l3 s3 (2 * (flt ls).length) 0 w1 (by omega)
    refine ⟨zRw g3 w2, ?_, ⟨⟨?_, ?_, ?_⟩, ?_, z6, z7, ?_, ?_⟩, ?_, ?_⟩
    · show _ = some (some (Sum.inl (ls.length : Int) : zV), zRw g3 w2)
      have c1' : Ev (d + 39) 111 186 [some (.inr (12, 0)), some (.inl 1), some (.inl 0)] [] (zRw g3 w1) = _ := c1
      have b1' : Ev (d + 39) 111 112 [some (.inr (12, 0)), some (.inl 1), some (.inl 0)] [] (zRw g3 (uW w 485 (ls.length : Int))) = _ := b1
      rw [← c1', ← b1', ← zU_zRw, ← zRw_of r3]
      simp only [e111_0, e111_1, e111_2, e111_5, e111_6, e111_7, e111_10, e111_11, e111_12, e111_15, e111_16, e111_17, e111_20, e111_21, e111_24, e111_25, e111_27, e111_30, e111_31, e111_34, e111_37, e111_38, e111_41, e111_42, e111_43, e111_44, e111_47, e111_48, e111_51, e111_52, e111_55, e111_56, e111_57, e111_60, e111_63, e111_64, e111_65, e111_68, e111_69, e111_70, e111_73, e111_76, e111_77, e111_78, e111_81, e111_82, e111_85, e111_86, e111_89, e111_92, e111_93, e111_96, e111_97, e111_98, e111_99, e111_102, e111_105, e111_106, e111_109, e111_110, e111_111, e111_113, e111_114, e111_117, e111_120, e111_121, e111_124, e111_127, e111_128, e111_129, e111_130, e111_133, e111_134, e111_135, e111_136, e111_137, e111_138, e111_139, e111_142, e111_145, e111_146, e111_147, e111_148, e111_151, e111_152, e111_153, e111_154, e111_155, e111_156, e111_157, e111_158, e111_159, e111_162, e111_165, e111_166, e111_167, e111_168, e111_171, e111_172, e111_173, e111_174, e111_175, e111_176, e111_177, e111_178, e111_181, e111_184, e111_185, e111_187, e111_188, e111_189, e111_192, e111_193, e111_196, e111_197, e111_200, e111_203, e111_204, e111_205, e111_206, e111_209, e111_210, e111_211, e111_212, e111_215, e111_218, e111_219, e111_222, l3, zU_app, zbI_some, zbV_some, Int.reduceToNat, Int.reduceLE, Int.reduceLT, Int.reduceEq, Nat.reduceEqDiff, and_self, and_true, true_and, and_false, false_and, if_true, if_false, ne_eq, not_true_eq_false, not_false_eq_true, reduceCtorEq]
    · rw [zRw_at, c2, if_neg (by omega), b3 _ (by omega), uW_eq]
    · intro k hk
      obtain ⟨q1, q2, q3⟩ := b2 k (by omega) hk
      obtain ⟨p1, p2, p3⟩ := z4 k hk
      rw [zRw_at, c2, c2, c2, if_neg (by omega), if_neg (by omega), if_neg (by omega), q1, q2, q3, f3 49 0 _ (by omega), f3 49 0 _ (by omega), f3 49 0 _ (by omega)]
      exact ⟨p1, p2, p3⟩
    · intro i hi
      obtain ⟨p1, p2⟩ := z3.2 i hi
      rw [zRw_at, c2, c2, if_pos (by omega), if_pos (by omega), show 550 + 2 * i - 550 = 2 * i by omega, show 550 + 2 * i + 1 - 550 = 2 * i + 1 by omega, f3 50 0 _ (by omega), f3 50 0 _ (by omega)]
      exact ⟨p1, p2⟩
    · intro i hi
      rw [zRw_at, c2, if_neg (by omega), b3 _ (by omega), uW_ne (by omega)]
    · rw [zRw_ne (by omega)]; exact k19
    · rw [zRw_ne (by omega)]; exact k21
    · rw [zRw_ne (by omega)]; exact k12
    · intro k j i h
      rw [zRw_ne (fun z => h (Or.inr (Or.inl z))), f3 k j i (fun z => h (Or.inr (Or.inr z))), a2 k j i (fun z => h (Or.inl z))]
