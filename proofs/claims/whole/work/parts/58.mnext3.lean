/-! the model's next token, 3 -/
def tkU (g : zG) (e t ta v : Int) : zG := zU (zU (zU (zU g 12 0 13 e) 12 0 14 t) 12 0 15 ta) 12 0 16 v
def sTk : Nat → Nat → Nat → Prop := fun k j i => k = 12 ∧ j = 0 ∧ 13 ≤ i ∧ i ≤ 16
theorem tkU_fr (g : zG) (e t ta v : Int) : Fr sTk g (tkU g e t ta v) := by
  intro k j i h
  have : ¬ (k = 12 ∧ j = 0 ∧ 13 ≤ i ∧ i ≤ 16) := h
  unfold tkU
  rw [zU_ne (by omega), zU_ne (by omega), zU_ne (by omega), zU_ne (by omega)]
theorem tkU_of {g g' : zG} {e t ta v : Int} (h1 : g' 12 0 13 = e) (h2 : g' 12 0 14 = t) (h3 : g' 12 0 15 = ta) (h4 : g' 12 0 16 = v) (h : Fr sTk g g') : g' = tkU g e t ta v := by
  funext k j i
  by_cases hk : k = 12 ∧ j = 0 ∧ 13 ≤ i ∧ i ≤ 16
  · obtain ⟨rfl, rfl, q1, q2⟩ := hk
    rcases (show i = 13 ∨ i = 14 ∨ i = 15 ∨ i = 16 by omega) with rfl | rfl | rfl | rfl
    · rw [h1]; rfl
    · rw [h2]; rfl
    · rw [h3]; rfl
    · rw [h4]; rfl
  · rw [tkU_fr g e t ta v k j i hk, h k j i hk]
def taT (b : Nat → Int) (T a : Nat) : Nat := skB b (T - a) a
def enT (b : Nat → Int) (T a : Nat) : Nat := if taT b T a < T then (if isL (b (taT b T a)) then skL b (T - taT b T a) (taT b T a) else if isD (b (taT b T a)) then skD b (T - taT b T a) (taT b T a) else taT b T a + 1) else taT b T a
def mkS (c : Int) : Bool := decide (c = 59) || decide (c = 43) || decide (c = 45) || decide (c = 42) || decide (c = 47) || decide (c = 40) || decide (c = 41) || decide (c = 60) || decide (c = 61) || decide (c = 62)
def toT (b : Nat → Int) (T a : Nat) : Int := if taT b T a < T then (if isL (b (taT b T a)) then wdT b (taT b T a) (enT b T a) else if isD (b (taT b T a)) then (if enT b T a - taT b T a < 5 then 2 else 1) else if mkS (b (taT b T a)) then 100 + b (taT b T a) else 1) else 0
def vaT (b : Nat → Int) (T a : Nat) (v : Int) : Int := if taT b T a < T ∧ isL (b (taT b T a)) = false ∧ isD (b (taT b T a)) = true then dvS b (taT b T a) (T - taT b T a) (taT b T a) 0 else v
def ByOk (b : Nat → Int) (T : Nat) : Prop := ∀ i, i < T → 0 ≤ b i ∧ b i < 256
theorem taT_le {b : Nat → Int} {T a : Nat} (h : a ≤ T) : a ≤ taT b T a ∧ taT b T a ≤ T := by
  unfold taT
  have := skB_le b (T - a) a
  omega
theorem enT_le {b : Nat → Int} {T a : Nat} (h : a ≤ T) : taT b T a ≤ enT b T a ∧ enT b T a ≤ T := by
  have h1 := taT_le (b := b) h
  have h2 := skL_le b (T - taT b T a) (taT b T a)
  have h3 := skD_le b (T - taT b T a) (taT b T a)
  unfold enT
  repeat' split
  all_goals omega
theorem m_nxA (d T a : Nat) (b : Nat → Int) (g : zG) (hT : TaAt g b T) (ha : g 12 0 13 = (a : Int)) (hle : a ≤ T) : EvM (d + 7) 112 [.inr (12, 0)] g = Ev (d + 7) 112 56 [some (.inr (12, 0)), some (.inl (if taT b T a < T then b (taT b T a) else -1)), none] [] (zU (zU g 12 0 13 (taT b T a : Int)) 12 0 15 (taT b T a : Int)) := by
  rw [en112, m_nxB d T b none none (T - a) a g (by omega) hT ha]
  have hs := m_see (d + 6) (taT b T a) T b (zU (zU g 12 0 13 (taT b T a : Int)) 12 0 15 (taT b T a : Int)) ((hT.u (by decide)).u (by decide)).1 ((hT.u (by decide)).u (by decide)).2.1 hT.2.2
  have e13 : zU g 12 0 13 (taT b T a : Int) 12 0 13 = (taT b T a : Int) := zU_eq _ _ _ _ _
  have e13' : zU (zU g 12 0 13 (taT b T a : Int)) 12 0 15 (taT b T a : Int) 12 0 13 = (taT b T a : Int) := by rw [zU_ne (by omega), zU_eq]
  show Ev (d + 7) 112 39 _ [] (zU g 12 0 13 (taT b T a : Int)) = _
  simp only [e112_1, e112_2, e112_5, e112_8, e112_10, e112_13, e112_14, e112_15, e112_18, e112_21, e112_23, e112_26, e112_27, e112_28, e112_31, e112_32, e112_33, e112_36, e112_39, e112_40, e112_41, e112_44, e112_47, e112_48, e112_49, e112_52, e112_55, e112_57, e112_58, e112_61, e112_62, e112_63, e112_66, e112_69, e112_70, e112_73, e112_77, e112_78, e112_81, e112_84, e112_87, e112_90, e112_91, e112_92, e112_95, e112_96, e112_97, e112_100, e112_103, e112_104, e112_105, e112_108, e112_111, e112_114, e112_115, e112_118, e112_121, e112_122, e112_123, e112_127, e112_128, e112_131, e112_134, e112_137, e112_140, e112_141, e112_144, e112_145, e112_148, e112_149, e112_150, e112_153, e112_154, e112_156, e112_157, e112_160, e112_161, e112_162, e112_163, e112_166, e112_169, e112_170, e112_172, e112_173, e112_176, e112_177, e112_178, e112_181, e112_182, e112_183, e112_186, e112_189, e112_190, e112_191, e112_194, e112_195, e112_198, e112_199, e112_200, e112_203, e112_204, e112_207, e112_208, e112_211, e112_214, e112_215, e112_216, e112_219, e112_220, e112_221, e112_224, e112_225, e112_227, e112_230, e112_231, e112_233, e112_236, e112_237, e112_239, e112_242, e112_243, e112_245, e112_248, e112_249, e112_251, e112_254, e112_255, e112_257, e112_260, e112_261, e112_263, e112_266, e112_267, e112_269, e112_272, e112_273, e112_275, e112_278, e112_279, e112_281, e112_284, e112_285, e112_288, e112_289, e112_290, e112_291, e112_292, e112_295, e112_297, e112_298, e112_299, e112_302, e112_303, e112_306, e13, e13', hs, zbI_some]
theorem m_next0 (d T a : Nat) (b : Nat → Int) (v : Int) (g : zG) (hT : TaAt g b T) (hB : ByOk b T) (ha : g 12 0 13 = (a : Int)) (hle : a ≤ T) (hv : g 12 0 16 = v) : EvM (d + 7) 112 [.inr (12, 0)] g = some (none, tkU g (enT b T a) (toT b T a) (taT b T a) (vaT b T a v)) := by
  rw [m_nxA d T a b g hT ha hle]
  have h4 := hT.2.2
  have l1 := taT_le (b := b) hle
  have l2 := enT_le (b := b) hle
  have hT2 : TaAt (zU (zU g 12 0 13 (taT b T a : Int)) 12 0 15 (taT b T a : Int)) b T := (hT.u (by decide)).u (by decide)
  have fr2 : Fr sTk g (zU (zU g 12 0 13 (taT b T a : Int)) 12 0 15 (taT b T a : Int)) := (Fr.u (by simp [sTk])).tr (Fr.u (by simp [sTk]))
  have c13 : zU (zU g 12 0 13 (taT b T a : Int)) 12 0 15 (taT b T a : Int) 12 0 13 = (taT b T a : Int) := by rw [zU_ne (by omega), zU_eq]
  have c15 : zU (zU g 12 0 13 (taT b T a : Int)) 12 0 15 (taT b T a : Int) 12 0 15 = (taT b T a : Int) := zU_eq _ _ _ _ _
  have c16 : zU (zU g 12 0 13 (taT b T a : Int)) 12 0 15 (taT b T a : Int) 12 0 16 = v := by rw [zU_ne (by omega), zU_ne (by omega)]; exact hv
  generalize hg2 : zU (zU g 12 0 13 (taT b T a : Int)) 12 0 15 (taT b T a : Int) = g2 at *
  unfold toT vaT
  have hen : enT b T a = enT b T a := rfl
  unfold enT at hen l2 ⊢
  generalize taT b T a = ta at *
  by_cases h1 : ta < T
  · have hc := hB ta h1
    simp only [if_pos h1] at hen l2 ⊢
    cases hL : isL (b ta) with
    | true =>
      simp only [hL, if_true] at hen l2 ⊢
      have start : Ev (d + 7) 112 56 [some (.inr (12, 0)), some (.inl (b ta)), none] [] g2 = Ev (d + 7) 112 76 [some (.inr (12, 0)), some (.inl (b ta)), none] [] g2 := by
        simp only [e112_1, e112_2, e112_5, e112_8, e112_10, e112_13, e112_14, e112_15, e112_18, e112_21, e112_23, e112_26, e112_27, e112_28, e112_31, e112_32, e112_33, e112_36, e112_39, e112_40, e112_41, e112_44, e112_47, e112_48, e112_49, e112_52, e112_55, e112_56, e112_57, e112_58, e112_61, e112_62, e112_63, e112_66, e112_69, e112_70, e112_73, e112_77, e112_78, e112_81, e112_84, e112_87, e112_90, e112_91, e112_92, e112_95, e112_96, e112_97, e112_100, e112_103, e112_104, e112_105, e112_108, e112_111, e112_114, e112_115, e112_118, e112_121, e112_122, e112_123, e112_127, e112_128, e112_131, e112_134, e112_137, e112_140, e112_141, e112_144, e112_145, e112_148, e112_149, e112_150, e112_153, e112_154, e112_156, e112_157, e112_160, e112_161, e112_162, e112_163, e112_166, e112_169, e112_170, e112_172, e112_173, e112_176, e112_177, e112_178, e112_181, e112_182, e112_183, e112_186, e112_189, e112_190, e112_191, e112_194, e112_195, e112_198, e112_199, e112_200, e112_203, e112_204, e112_207, e112_208, e112_211, e112_214, e112_215, e112_216, e112_219, e112_220, e112_221, e112_224, e112_225, e112_227, e112_230, e112_231, e112_233, e112_236, e112_237, e112_239, e112_242, e112_243, e112_245, e112_248, e112_249, e112_251, e112_254, e112_255, e112_257, e112_260, e112_261, e112_263, e112_266, e112_267, e112_269, e112_272, e112_273, e112_275, e112_278, e112_279, e112_281, e112_284, e112_285, e112_288, e112_289, e112_290, e112_291, e112_292, e112_295, e112_297, e112_298, e112_299, e112_302, e112_303, e112_306, m_isLetter, hL, zbI_some, zbo_if, if_true]
        rw [if_pos (by omega)]
      rw [start, m_nxL d T b _ _ (T - ta) ta g2 (by omega) hT2 c13]
      have hw := m_word d ta (skL b (T - ta) ta) b (zU g2 12 0 13 (skL b (T - ta) ta : Int)) (hT2.u (by decide)).1 (by rw [zU_ne (by omega)]; exact c15) (zU_eq _ _ _ _ _) (by omega) (by omega)
      simp only [e112_1, e112_2, e112_5, e112_8, e112_10, e112_13, e112_14, e112_15, e112_18, e112_21, e112_23, e112_26, e112_27, e112_28, e112_31, e112_32, e112_33, e112_36, e112_39, e112_40, e112_41, e112_44, e112_47, e112_48, e112_49, e112_52, e112_55, e112_56, e112_57, e112_58, e112_61, e112_62, e112_63, e112_66, e112_69, e112_70, e112_73, e112_77, e112_78, e112_81, e112_84, e112_87, e112_90, e112_91, e112_92, e112_95, e112_96, e112_97, e112_100, e112_103, e112_104, e112_105, e112_108, e112_111, e112_114, e112_115, e112_118, e112_121, e112_122, e112_123, e112_127, e112_128, e112_131, e112_134, e112_137, e112_140, e112_141, e112_144, e112_145, e112_148, e112_149, e112_150, e112_153, e112_154, e112_156, e112_157, e112_160, e112_161, e112_162, e112_163, e112_166, e112_169, e112_170, e112_172, e112_173, e112_176, e112_177, e112_178, e112_181, e112_182, e112_183, e112_186, e112_189, e112_190, e112_191, e112_194, e112_195, e112_198, e112_199, e112_200, e112_203, e112_204, e112_207, e112_208, e112_211, e112_214, e112_215, e112_216, e112_219, e112_220, e112_221, e112_224, e112_225, e112_227, e112_230, e112_231, e112_233, e112_236, e112_237, e112_239, e112_242, e112_243, e112_245, e112_248, e112_249, e112_251, e112_254, e112_255, e112_257, e112_260, e112_261, e112_263, e112_266, e112_267, e112_269, e112_272, e112_273, e112_275, e112_278, e112_279, e112_281, e112_284, e112_285, e112_288, e112_289, e112_290, e112_291, e112_292, e112_295, e112_297, e112_298, e112_299, e112_302, e112_303, e112_306, hw, zbI_some]
      congr 2
      apply tkU_of
      · rw [zU_ne (by omega), zU_eq]
      · rw [zU_eq]
      · rw [zU_ne (by omega), zU_ne (by omega)]; exact c15
      · rw [zU_ne (by omega), zU_ne (by omega), if_neg (fun z => by cases z.2.1)]; exact c16
      · exact fr2.tr ((Fr.u (by simp [sTk])).tr (Fr.u (by simp [sTk])))
    | false =>
      simp only [hL, Bool.false_eq_true, if_false] at hen l2 ⊢
      cases hD : isD (b ta) with
      | true =>
        simp only [hD, if_true] at hen l2 ⊢
        have start : Ev (d + 7) 112 56 [some (.inr (12, 0)), some (.inl (b ta)), none] [] g2 = Ev (d + 7) 112 126 [some (.inr (12, 0)), some (.inl (b ta)), none] [] (zU g2 12 0 16 0) := by
          simp only [e112_1, e112_2, e112_5, e112_8, e112_10, e112_13, e112_14, e112_15, e112_18, e112_21, e112_23, e112_26, e112_27, e112_28, e112_31, e112_32, e112_33, e112_36, e112_39, e112_40, e112_41, e112_44, e112_47, e112_48, e112_49, e112_52, e112_55, e112_56, e112_57, e112_58, e112_61, e112_62, e112_63, e112_66, e112_69, e112_70, e112_73, e112_77, e112_78, e112_81, e112_84, e112_87, e112_90, e112_91, e112_92, e112_95, e112_96, e112_97, e112_100, e112_103, e112_104, e112_105, e112_108, e112_111, e112_114, e112_115, e112_118, e112_121, e112_122, e112_123, e112_127, e112_128, e112_131, e112_134, e112_137, e112_140, e112_141, e112_144, e112_145, e112_148, e112_149, e112_150, e112_153, e112_154, e112_156, e112_157, e112_160, e112_161, e112_162, e112_163, e112_166, e112_169, e112_170, e112_172, e112_173, e112_176, e112_177, e112_178, e112_181, e112_182, e112_183, e112_186, e112_189, e112_190, e112_191, e112_194, e112_195, e112_198, e112_199, e112_200, e112_203, e112_204, e112_207, e112_208, e112_211, e112_214, e112_215, e112_216, e112_219, e112_220, e112_221, e112_224, e112_225, e112_227, e112_230, e112_231, e112_233, e112_236, e112_237, e112_239, e112_242, e112_243, e112_245, e112_248, e112_249, e112_251, e112_254, e112_255, e112_257, e112_260, e112_261, e112_263, e112_266, e112_267, e112_269, e112_272, e112_273, e112_275, e112_278, e112_279, e112_281, e112_284, e112_285, e112_288, e112_289, e112_290, e112_291, e112_292, e112_295, e112_297, e112_298, e112_299, e112_302, e112_303, e112_306, m_isLetter, m_isDigit, hL, hD, zbI_some, zbo_if, Bool.false_eq_true, if_true, if_false]
          rw [if_pos (by omega)]
        rw [start, m_nxD d T ta b _ _ (T - ta) ta 0 (zU g2 12 0 16 0) (by omega) (hT2.u (by decide)) (by rw [zU_ne (by omega)]; exact c13) (by rw [zU_ne (by omega)]; exact c15) (zU_eq _ _ _ _ _) ⟨by omega, by omega, by omega, by omega, by omega, by omega, by omega⟩]
        have e13 : zU (zU (zU g2 12 0 16 0) 12 0 13 (skD b (T - ta) ta : Int)) 12 0 16 (dvS b ta (T - ta) ta 0) 12 0 13 = (skD b (T - ta) ta : Int) := by rw [zU_ne (by omega), zU_eq]
        have e15 : zU (zU (zU g2 12 0 16 0) 12 0 13 (skD b (T - ta) ta : Int)) 12 0 16 (dvS b ta (T - ta) ta 0) 12 0 15 = (ta : Int) := by rw [zU_ne (by omega), zU_ne (by omega), zU_ne (by omega)]; exact c15
        have e16 : zU (zU (zU g2 12 0 16 0) 12 0 13 (skD b (T - ta) ta : Int)) 12 0 16 (dvS b ta (T - ta) ta 0) 12 0 16 = dvS b ta (T - ta) ta 0 := zU_eq _ _ _ _ _
        have f3 : Fr sTk g2 (zU (zU (zU g2 12 0 16 0) 12 0 13 (skD b (T - ta) ta : Int)) 12 0 16 (dvS b ta (T - ta) ta 0)) := ((Fr.u (by simp [sTk])).tr (Fr.u (by simp [sTk]))).tr (Fr.u (by simp [sTk]))
        generalize zU (zU (zU g2 12 0 16 0) 12 0 13 (skD b (T - ta) ta : Int)) 12 0 16 (dvS b ta (T - ta) ta 0) = g3 at *
        simp only [e112_1, e112_2, e112_5, e112_8, e112_10, e112_13, e112_14, e112_15, e112_18, e112_21, e112_23, e112_26, e112_27, e112_28, e112_31, e112_32, e112_33, e112_36, e112_39, e112_40, e112_41, e112_44, e112_47, e112_48, e112_49, e112_52, e112_55, e112_56, e112_57, e112_58, e112_61, e112_62, e112_63, e112_66, e112_69, e112_70, e112_73, e112_77, e112_78, e112_81, e112_84, e112_87, e112_90, e112_91, e112_92, e112_95, e112_96, e112_97, e112_100, e112_103, e112_104, e112_105, e112_108, e112_111, e112_114, e112_115, e112_118, e112_121, e112_122, e112_123, e112_127, e112_128, e112_131, e112_134, e112_137, e112_140, e112_141, e112_144, e112_145, e112_148, e112_149, e112_150, e112_153, e112_154, e112_156, e112_157, e112_160, e112_161, e112_162, e112_163, e112_166, e112_169, e112_170, e112_172, e112_173, e112_176, e112_177, e112_178, e112_181, e112_182, e112_183, e112_186, e112_189, e112_190, e112_191, e112_194, e112_195, e112_198, e112_199, e112_200, e112_203, e112_204, e112_207, e112_208, e112_211, e112_214, e112_215, e112_216, e112_219, e112_220, e112_221, e112_224, e112_225, e112_227, e112_230, e112_231, e112_233, e112_236, e112_237, e112_239, e112_242, e112_243, e112_245, e112_248, e112_249, e112_251, e112_254, e112_255, e112_257, e112_260, e112_261, e112_263, e112_266, e112_267, e112_269, e112_272, e112_273, e112_275, e112_278, e112_279, e112_281, e112_284, e112_285, e112_288, e112_289, e112_290, e112_291, e112_292, e112_295, e112_297, e112_298, e112_299, e112_302, e112_303, e112_306, e13, e15]
        rw [zwr_id (by omega) (by omega)]
        have fin : ∀ t : Int, t = (if skD b (T - ta) ta - ta < 5 then 2 else 1) → zU g3 12 0 14 t = tkU g (skD b (T - ta) ta : Int) (if skD b (T - ta) ta - ta < 5 then 2 else 1) ta (if ta < T ∧ true = true ∧ true = true then dvS b ta (T - ta) ta 0 else v) := by
          intro t ht
          apply tkU_of
          · rw [zU_ne (by omega)]; exact e13
          · rw [zU_eq]; exact ht
          · rw [zU_ne (by omega)]; exact e15
          · rw [zU_ne (by omega), if_pos ⟨h1, rfl, rfl⟩]; exact e16
          · exact fr2.tr (f3.tr (Fr.u (by simp [sTk])))
        by_cases q5 : skD b (T - ta) ta - ta < 5
        · rw [if_neg (by omega), fin 2 (by rw [if_pos q5])]
          simp
        · rw [if_pos (by omega), fin 1 (by rw [if_neg q5])]
          simp
      | false =>
        simp only [hD, Bool.false_eq_true, if_false] at hen l2 ⊢
        have start : Ev (d + 7) 112 56 [some (.inr (12, 0)), some (.inl (b ta)), none] [] g2 = Ev (d + 7) 112 224 [some (.inr (12, 0)), some (.inl (b ta)), none] [] (zU g2 12 0 13 ((ta + 1 : Nat) : Int)) := by
          simp only [e112_1, e112_2, e112_5, e112_8, e112_10, e112_13, e112_14, e112_15, e112_18, e112_21, e112_23, e112_26, e112_27, e112_28, e112_31, e112_32, e112_33, e112_36, e112_39, e112_40, e112_41, e112_44, e112_47, e112_48, e112_49, e112_52, e112_55, e112_56, e112_57, e112_58, e112_61, e112_62, e112_63, e112_66, e112_69, e112_70, e112_73, e112_77, e112_78, e112_81, e112_84, e112_87, e112_90, e112_91, e112_92, e112_95, e112_96, e112_97, e112_100, e112_103, e112_104, e112_105, e112_108, e112_111, e112_114, e112_115, e112_118, e112_121, e112_122, e112_123, e112_127, e112_128, e112_131, e112_134, e112_137, e112_140, e112_141, e112_144, e112_145, e112_148, e112_149, e112_150, e112_153, e112_154, e112_156, e112_157, e112_160, e112_161, e112_162, e112_163, e112_166, e112_169, e112_170, e112_172, e112_173, e112_176, e112_177, e112_178, e112_181, e112_182, e112_183, e112_186, e112_189, e112_190, e112_191, e112_194, e112_195, e112_198, e112_199, e112_200, e112_203, e112_204, e112_207, e112_208, e112_211, e112_214, e112_215, e112_216, e112_219, e112_220, e112_221, e112_225, e112_227, e112_230, e112_231, e112_233, e112_236, e112_237, e112_239, e112_242, e112_243, e112_245, e112_248, e112_249, e112_251, e112_254, e112_255, e112_257, e112_260, e112_261, e112_263, e112_266, e112_267, e112_269, e112_272, e112_273, e112_275, e112_278, e112_279, e112_281, e112_284, e112_285, e112_288, e112_289, e112_290, e112_291, e112_292, e112_295, e112_297, e112_298, e112_299, e112_302, e112_303, e112_306, m_isLetter, m_isDigit, hL, hD, zbI_some, zbo_if, Bool.false_eq_true, if_false, c13]
          rw [if_pos (by omega), zwr_id (by omega) (by omega)]
          rfl
        have fin : zU (zU g2 12 0 13 ((ta + 1 : Nat) : Int)) 12 0 14 (if mkS (b ta) then 100 + b ta else 1) = tkU g ((ta + 1 : Nat) : Int) (if mkS (b ta) then 100 + b ta else 1) ta v := by
          apply tkU_of
          · rw [zU_ne (by omega), zU_eq]
          · rw [zU_eq]
          · rw [zU_ne (by omega), zU_ne (by omega)]; exact c15
          · rw [zU_ne (by omega), zU_ne (by omega)]; exact c16
          · exact fr2.tr ((Fr.u (by simp [sTk])).tr (Fr.u (by simp [sTk])))
        rw [start]
        simp only [and_false, false_and, if_false]
        rw [← fin]
        simp only [e112_1, e112_2, e112_5, e112_8, e112_10, e112_13, e112_14, e112_15, e112_18, e112_21, e112_23, e112_26, e112_27, e112_28, e112_31, e112_32, e112_33, e112_36, e112_39, e112_40, e112_41, e112_44, e112_47, e112_48, e112_49, e112_52, e112_55, e112_56, e112_57, e112_58, e112_61, e112_62, e112_63, e112_66, e112_69, e112_70, e112_73, e112_77, e112_78, e112_81, e112_84, e112_87, e112_90, e112_91, e112_92, e112_95, e112_96, e112_97, e112_100, e112_103, e112_104, e112_105, e112_108, e112_111, e112_114, e112_115, e112_118, e112_121, e112_122, e112_123, e112_127, e112_128, e112_131, e112_134, e112_137, e112_140, e112_141, e112_144, e112_145, e112_148, e112_149, e112_150, e112_153, e112_154, e112_156, e112_157, e112_160, e112_161, e112_162, e112_163, e112_166, e112_169, e112_170, e112_172, e112_173, e112_176, e112_177, e112_178, e112_181, e112_182, e112_183, e112_186, e112_189, e112_190, e112_191, e112_194, e112_195, e112_198, e112_199, e112_200, e112_203, e112_204, e112_207, e112_208, e112_211, e112_214, e112_215, e112_216, e112_219, e112_220, e112_221, e112_224, e112_225, e112_227, e112_230, e112_231, e112_233, e112_236, e112_237, e112_239, e112_242, e112_243, e112_245, e112_248, e112_249, e112_251, e112_254, e112_255, e112_257, e112_260, e112_261, e112_263, e112_266, e112_267, e112_269, e112_272, e112_273, e112_275, e112_278, e112_279, e112_281, e112_284, e112_285, e112_288, e112_289, e112_290, e112_291, e112_292, e112_295, e112_297, e112_298, e112_299, e112_302, e112_303, e112_306, zwr_id (x := 100 + b ta) (by omega) (by omega), zU_app, zbI_some, zbV_some, Int.reduceToNat, Int.reduceLE, Int.reduceLT, Int.reduceEq, Nat.reduceEqDiff, and_self, and_true, true_and, and_false, false_and, if_true, if_false, ne_eq, not_true_eq_false, not_false_eq_true, reduceCtorEq]
        unfold mkS
        generalize b ta = c
        by_cases k1 : c = 59
        · subst k1; rfl
        rw [if_neg k1]
        by_cases k2 : c = 43
        · subst k2; rfl
        rw [if_neg k2]
        by_cases k3 : c = 45
        · subst k3; rfl
        rw [if_neg k3]
        by_cases k4 : c = 42
        · subst k4; rfl
        rw [if_neg k4]
        by_cases k5 : c = 47
        · subst k5; rfl
        rw [if_neg k5]
        by_cases k6 : c = 40
        · subst k6; rfl
        rw [if_neg k6]
        by_cases k7 : c = 41
        · subst k7; rfl
        rw [if_neg k7]
        by_cases k8 : c = 60
        · subst k8; rfl
        rw [if_neg k8]
        by_cases k9 : c = 61
        · subst k9; rfl
        rw [if_neg k9]
        by_cases k10 : c = 62
        · subst k10; rfl
        rw [if_pos k10]
        simp [k1, k2, k3, k4, k5, k6, k7, k8, k9, k10]
  · simp only [if_neg h1] at hen l2 ⊢
    simp only [e112_1, e112_2, e112_5, e112_8, e112_10, e112_13, e112_14, e112_15, e112_18, e112_21, e112_23, e112_26, e112_27, e112_28, e112_31, e112_32, e112_33, e112_36, e112_39, e112_40, e112_41, e112_44, e112_47, e112_48, e112_49, e112_52, e112_55, e112_56, e112_57, e112_58, e112_61, e112_62, e112_63, e112_66, e112_69, e112_70, e112_73, e112_77, e112_78, e112_81, e112_84, e112_87, e112_90, e112_91, e112_92, e112_95, e112_96, e112_97, e112_100, e112_103, e112_104, e112_105, e112_108, e112_111, e112_114, e112_115, e112_118, e112_121, e112_122, e112_123, e112_127, e112_128, e112_131, e112_134, e112_137, e112_140, e112_141, e112_144, e112_145, e112_148, e112_149, e112_150, e112_153, e112_154, e112_156, e112_157, e112_160, e112_161, e112_162, e112_163, e112_166, e112_169, e112_170, e112_172, e112_173, e112_176, e112_177, e112_178, e112_181, e112_182, e112_183, e112_186, e112_189, e112_190, e112_191, e112_194, e112_195, e112_198, e112_199, e112_200, e112_203, e112_204, e112_207, e112_208, e112_211, e112_214, e112_215, e112_216, e112_219, e112_220, e112_221, e112_224, e112_225, e112_227, e112_230, e112_231, e112_233, e112_236, e112_237, e112_239, e112_242, e112_243, e112_245, e112_248, e112_249, e112_251, e112_254, e112_255, e112_257, e112_260, e112_261, e112_263, e112_266, e112_267, e112_269, e112_272, e112_273, e112_275, e112_278, e112_279, e112_281, e112_284, e112_285, e112_288, e112_289, e112_290, e112_291, e112_292, e112_295, e112_297, e112_298, e112_299, e112_302, e112_303, e112_306, zU_app, zbI_some, zbV_some, Int.reduceToNat, Int.reduceLE, Int.reduceLT, Int.reduceEq, Nat.reduceEqDiff, and_self, and_true, true_and, and_false, false_and, if_true, if_false, ne_eq, not_true_eq_false, not_false_eq_true, reduceCtorEq]
    congr 2
    apply tkU_of
    · rw [zU_ne (by omega)]; exact c13
    · rw [zU_eq]
    · rw [zU_ne (by omega)]; exact c15
    · rw [zU_ne (by omega), if_neg (fun z => h1 z.1)]; exact c16
    · exact fr2.tr (Fr.u (by simp [sTk]))
