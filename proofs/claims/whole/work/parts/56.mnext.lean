/-! the model's next token -/
def nmT (b : Nat → Int) (ta e : Nat) : Int := if isW' b ta e 18 then 41 else if isW' b ta e 19 then 42 else if isW' b ta e 20 then 43 else if isW' b ta e 21 then 44 else if isW' b ta e 22 then 45 else if isW' b ta e 23 then 46 else if isW' b ta e 24 then 47 else 1
def wdT (b : Nat → Int) (ta e : Nat) : Int := if isW' b ta e 13 then 3 else if isW' b ta e 14 then 4 else if isW' b ta e 15 then 5 else if isW' b ta e 16 then 6 else if isW' b ta e 17 then 20 else nmT b ta e
theorem zbo_if {α : Type} {q : Bool} {x y : α} : (if zbo q = 0 then y else x) = if q then x else y := by cases q <;> rfl
theorem m_nameWord (d ta e : Nat) (b : Nat → Int) (g : zG) (hb : g 51 0 = b) (hta : g 12 0 15 = (ta : Int)) (he : g 12 0 13 = (e : Int)) (h4 : e ≤ 400) (hle : ta ≤ e) : EvM (d + 5) 117 [.inr (12, 0)] g = some (some (.inl (nmT b ta e)), g) := by
  rw [en117]
  have h := fun j => m_is d j ta e b g hb hta he h4 hle
  simp only [e117_0, e117_1, e117_3, e117_6, e117_9, e117_11, e117_12, e117_13, e117_15, e117_18, e117_21, e117_23, e117_24, e117_25, e117_27, e117_30, e117_33, e117_35, e117_36, e117_37, e117_39, e117_42, e117_45, e117_47, e117_48, e117_49, e117_51, e117_54, e117_57, e117_59, e117_60, e117_61, e117_63, e117_66, e117_69, e117_71, e117_72, e117_73, e117_75, e117_78, e117_81, e117_83, e117_86, e117_87, h, zbI_some, zbo_if]
  unfold nmT
  repeat' split
  all_goals rfl
theorem m_word (d ta e : Nat) (b : Nat → Int) (g : zG) (hb : g 51 0 = b) (hta : g 12 0 15 = (ta : Int)) (he : g 12 0 13 = (e : Int)) (h4 : e ≤ 400) (hle : ta ≤ e) : EvM (d + 6) 115 [.inr (12, 0)] g = some (some (.inl (wdT b ta e)), g) := by
  rw [en115]
  have h := fun j => m_is (d + 1) j ta e b g hb hta he h4 hle
  simp only [e115_0, e115_1, e115_3, e115_6, e115_9, e115_10, e115_11, e115_12, e115_14, e115_17, e115_20, e115_21, e115_22, e115_23, e115_25, e115_28, e115_31, e115_32, e115_33, e115_34, e115_36, e115_39, e115_42, e115_44, e115_45, e115_46, e115_48, e115_51, e115_54, e115_56, e115_59, e115_60, e115_63, h, zbI_some, zbo_if, m_nameWord d ta e b g hb hta he h4 hle]
  unfold wdT
  repeat' split
  all_goals rfl
def skB (b : Nat → Int) : Nat → Nat → Nat
  | 0, a => a
  | m + 1, a => if b a = 32 ∨ b a = 10 then skB b m (a + 1) else a
def skL (b : Nat → Int) : Nat → Nat → Nat
  | 0, a => a
  | m + 1, a => if isL (b a) then skL b m (a + 1) else a
def skD (b : Nat → Int) : Nat → Nat → Nat
  | 0, a => a
  | m + 1, a => if isD (b a) then skD b m (a + 1) else a
def dvS (b : Nat → Int) (ta : Nat) : Nat → Nat → Int → Int
  | 0, _, v => v
  | m + 1, a, v => if isD (b a) then dvS b ta m (a + 1) (if a < ta + 4 then 10 * v + b a - 48 else v) else v
theorem skB_le (b : Nat → Int) : ∀ m a, a ≤ skB b m a ∧ skB b m a ≤ a + m
  | 0, a => by rw [skB]; omega
  | m + 1, a => by
    rw [skB]
    have := skB_le b m (a + 1)
    split <;> omega
theorem skL_le (b : Nat → Int) : ∀ m a, a ≤ skL b m a ∧ skL b m a ≤ a + m
  | 0, a => by rw [skL]; omega
  | m + 1, a => by
    rw [skL]
    have := skL_le b m (a + 1)
    split <;> omega
theorem skD_le (b : Nat → Int) : ∀ m a, a ≤ skD b m a ∧ skD b m a ≤ a + m
  | 0, a => by rw [skD]; omega
  | m + 1, a => by
    rw [skD]
    have := skD_le b m (a + 1)
    split <;> omega
/-- the tape is there -/
def TaAt (g : zG) (b : Nat → Int) (T : Nat) : Prop := g 51 0 = b ∧ g 12 0 12 = (T : Int) ∧ T ≤ 400
theorem TaAt.u {g : zG} {b : Nat → Int} {T i : Nat} {x : Int} (h : TaAt g b T) (hi : i ≠ 12) : TaAt (zU g 12 0 i x) b T := ⟨(zU_fn (by omega)).trans h.1, by rw [zU_ne (by omega)]; exact h.2.1, h.2.2⟩
theorem m_nxB (d T : Nat) (b : Nat → Int) (u1 u2 : Option zV) : ∀ (m a : Nat) (g : zG), a + m = T → TaAt g b T → g 12 0 13 = (a : Int) → Ev (d + 7) 112 0 [some (.inr (12, 0)), u1, u2] [] g = Ev (d + 7) 112 39 [some (.inr (12, 0)), u1, u2] [] (zU g 12 0 13 (skB b m a : Int)) := by
  intro m
  induction m with
  | zero =>
    intro a g h hT ha
    have hs := m_see (d + 6) a T b g hT.1 hT.2.1 hT.2.2
    rw [if_neg (by omega)] at hs
    rw [e112_0]
    simp only [e112_1, e112_2, e112_5, e112_8, e112_10, e112_13, e112_14, e112_15, e112_18, e112_21, e112_23, e112_26, e112_27, e112_28, e112_31, e112_32, e112_33, e112_36, e112_40, e112_41, e112_44, e112_47, e112_48, e112_49, e112_52, e112_55, e112_56, e112_57, e112_58, e112_61, e112_62, e112_63, e112_66, e112_69, e112_70, e112_73, e112_77, e112_78, e112_81, e112_84, e112_87, e112_90, e112_91, e112_92, e112_95, e112_96, e112_97, e112_100, e112_103, e112_104, e112_105, e112_108, e112_111, e112_114, e112_115, e112_118, e112_121, e112_122, e112_123, e112_127, e112_128, e112_131, e112_134, e112_137, e112_140, e112_141, e112_144, e112_145, e112_148, e112_149, e112_150, e112_153, e112_154, e112_156, e112_157, e112_160, e112_161, e112_162, e112_163, e112_166, e112_169, e112_170, e112_172, e112_173, e112_176, e112_177, e112_178, e112_181, e112_182, e112_183, e112_186, e112_189, e112_190, e112_191, e112_194, e112_195, e112_198, e112_199, e112_200, e112_203, e112_204, e112_207, e112_208, e112_211, e112_214, e112_215, e112_216, e112_219, e112_220, e112_221, e112_224, e112_225, e112_227, e112_230, e112_231, e112_233, e112_236, e112_237, e112_239, e112_242, e112_243, e112_245, e112_248, e112_249, e112_251, e112_254, e112_255, e112_257, e112_260, e112_261, e112_263, e112_266, e112_267, e112_269, e112_272, e112_273, e112_275, e112_278, e112_279, e112_281, e112_284, e112_285, e112_288, e112_289, e112_290, e112_291, e112_292, e112_295, e112_297, e112_298, e112_299, e112_302, e112_303, e112_306, ha, hs, zU_app, zbI_some, zbV_some, Int.reduceToNat, Int.reduceLE, Int.reduceLT, Int.reduceEq, Nat.reduceEqDiff, and_self, and_true, true_and, and_false, false_and, if_true, if_false, ne_eq, not_true_eq_false, not_false_eq_true, reduceCtorEq]
    rw [skB, ← ha]
    congr 1
    funext k j i
    by_cases q : k = 12 ∧ j = 0 ∧ i = 13
    · obtain ⟨rfl, rfl, rfl⟩ := q
      rw [zU_eq]
    · rw [zU_ne q]
  | succ m ih =>
    intro a g h hT ha
    have hs := m_see (d + 6) a T b g hT.1 hT.2.1 hT.2.2
    rw [if_pos (by omega)] at hs
    have h4 := hT.2.2
    rw [e112_0]
    simp only [e112_1, e112_2, e112_5, e112_8, e112_10, e112_13, e112_14, e112_15, e112_18, e112_21, e112_23, e112_26, e112_27, e112_28, e112_31, e112_32, e112_33, e112_36, e112_40, e112_41, e112_44, e112_47, e112_48, e112_49, e112_52, e112_55, e112_56, e112_57, e112_58, e112_61, e112_62, e112_63, e112_66, e112_69, e112_70, e112_73, e112_77, e112_78, e112_81, e112_84, e112_87, e112_90, e112_91, e112_92, e112_95, e112_96, e112_97, e112_100, e112_103, e112_104, e112_105, e112_108, e112_111, e112_114, e112_115, e112_118, e112_121, e112_122, e112_123, e112_127, e112_128, e112_131, e112_134, e112_137, e112_140, e112_141, e112_144, e112_145, e112_148, e112_149, e112_150, e112_153, e112_154, e112_156, e112_157, e112_160, e112_161, e112_162, e112_163, e112_166, e112_169, e112_170, e112_172, e112_173, e112_176, e112_177, e112_178, e112_181, e112_182, e112_183, e112_186, e112_189, e112_190, e112_191, e112_194, e112_195, e112_198, e112_199, e112_200, e112_203, e112_204, e112_207, e112_208, e112_211, e112_214, e112_215, e112_216, e112_219, e112_220, e112_221, e112_224, e112_225, e112_227, e112_230, e112_231, e112_233, e112_236, e112_237, e112_239, e112_242, e112_243, e112_245, e112_248, e112_249, e112_251, e112_254, e112_255, e112_257, e112_260, e112_261, e112_263, e112_266, e112_267, e112_269, e112_272, e112_273, e112_275, e112_278, e112_279, e112_281, e112_284, e112_285, e112_288, e112_289, e112_290, e112_291, e112_292, e112_295, e112_297, e112_298, e112_299, e112_302, e112_303, e112_306, ha, hs, zbI_some]
    rw [skB]
    have nx := ih (a + 1) (zU g 12 0 13 ((a + 1 : Nat) : Int)) (by omega) (hT.u (by decide)) (zU_eq _ _ _ _ _)
    have e2 : zU (zU g 12 0 13 ((a + 1 : Nat) : Int)) 12 0 13 (skB b m (a + 1) : Int) = zU g 12 0 13 (skB b m (a + 1) : Int) := by
      funext k j i
      by_cases q : k = 12 ∧ j = 0 ∧ i = 13
      · obtain ⟨rfl, rfl, rfl⟩ := q
        rw [zU_eq, zU_eq]
      · rw [zU_ne q, zU_ne q, zU_ne q]
    rw [e2] at nx
    rw [zwr_id (by omega) (by omega), show (a : Int) + 1 = ((a + 1 : Nat) : Int) by omega]
    by_cases q1 : b a = 32
    · rw [if_pos q1, if_pos (Or.inl q1)]
      exact nx
    · rw [if_neg q1]
      by_cases q2 : b a = 10
      · rw [if_neg (fun z => z q2), if_pos (Or.inr q2)]
        exact nx
      · rw [if_pos q2, if_neg (by omega), ← ha]
        congr 1
        funext k j i
        by_cases q : k = 12 ∧ j = 0 ∧ i = 13
        · obtain ⟨rfl, rfl, rfl⟩ := q
          rw [zU_eq]
        · rw [zU_ne q]
