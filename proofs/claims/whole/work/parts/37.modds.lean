/-! the model's odds -/
theorem m_comeL (d : Nat) (f : Nat → Int) (w : Nat → Int) (b : Int) : ∀ (l : List (Int × Int)) (i e : Nat) (a5 a6 : Option zV) (st : List Int) (g : zG) (m : Nat), g 46 0 = w → (∀ s, 1 ≤ s → s ≤ 7 → g 53 0 s = f s) → e = i + l.length → e ≤ 400 → StAt w i l → PileOk g st → st.length + l.length < 410 → dpO l st.length = some (m + 1) →
    ∃ g', Ev (d + 1) 173 5 [some (.inr (12, 0)), some (.inl b), some (.inl (e : Int)), some (.inl (st.length : Int)), some (.inl (i : Int)), a5, a6] [] g = some (some (.inl ((exO f l st).getD m 0)), g') ∧ Fr sPile g g' := by
  intro l
  induction l with
  | nil =>
    intro i e a5 a6 st g m hw hf he h4 hS hp hl hd
    have hm : st.length = m + 1 := by simpa [dpO] using hd
    have he : e = i := by simpa using he
    refine ⟨g, ?_, Fr.rf⟩
    rw [e173_5]
    simp only [e173_0, e173_1, e173_2, e173_3, e173_7, e173_8, e173_11, e173_12, e173_15, e173_18, e173_19, e173_21, e173_22, e173_23, e173_24, e173_26, e173_27, e173_30, e173_33, e173_34, e173_36, e173_37, e173_38, e173_39, e173_40, e173_41, e173_43, e173_45, e173_47, e173_50, e173_51, e173_54, e173_55, e173_57, e173_60, e173_62, e173_65, e173_66, e173_69, e173_71, e173_72, e173_73, e173_76, e173_79, e173_81, e173_83, e173_86, e173_87, e173_90, e173_91, e173_92, e173_93, e173_94, e173_95, e173_97, e173_98, e173_99, e173_102, e173_104, e173_106, e173_109, e173_110, e173_113, e173_114, e173_115, e173_116, e173_117, e173_118, e173_121, e173_122, e173_123, e173_124, e173_125, e173_126, e173_127, e173_130, e173_133, e173_134, e173_137, e173_138, e173_139, e173_140, e173_142, e173_143, e173_146, e173_147, e173_148, e173_149, e173_150, e173_151, e173_154, e173_155, e173_156, e173_159, e173_160, e173_163, e173_166, e173_167, e173_170, e173_171, e173_172, zU_app, zbI_some, zbV_some, Int.reduceToNat, Int.reduceLE, Int.reduceLT, Int.reduceEq, Nat.reduceEqDiff, and_self, and_true, true_and, and_false, false_and, if_true, if_false, ne_eq, not_true_eq_false, not_false_eq_true, reduceCtorEq]
    rw [if_pos (by omega)]
    have := hp m (by omega)
    rw [show st.length - 1 - m = 0 by omega] at this
    rw [this]
    rfl
  | cons o l ih =>
    intro i e a5 a6 st g m hw hf he h4 hS hp hl hd
    rw [List.length_cons] at he hl
    rw [dpO] at hd
    cases hk : okO o st.length with
    | none => rw [hk] at hd; cases hd
    | some n =>
      rw [hk] at hd
      have hd : dpO l n = some (m + 1) := hd
      have h0 := hS 0 (by simp)
      simp only [Nat.add_zero, List.getD_cons_zero] at h0
      obtain ⟨g1, e1, p1, f1⟩ := m_come1 d f w i e b a5 a6 o st g hw hf (by omega) h4 h0 hp (by omega) n hk
      have hlen := opE_len (f := f) hk
      have hn : n ≤ st.length + 1 := by
        unfold okO at hk
        split at hk
        · cases hk; omega
        · split at hk
          · obtain ⟨-, hk⟩ := zif hk; cases hk; omega
          · split at hk
            · obtain ⟨-, hk⟩ := zif hk; cases hk; omega
            · obtain ⟨-, hk⟩ := zif hk
              obtain ⟨-, hk⟩ := zif hk
              cases hk; omega
      obtain ⟨g2, e2, f2⟩ := ih (i + 1) e _ _ (opE f o st) g1 m ((f1.fn (fun i => by simp [sPile])).trans hw) (fun s h1 h2 => by rw [f1 53 0 s (by simp [sPile])]; exact hf s h1 h2) (by omega) h4 hS.tl p1 (by omega) (by rw [hlen]; exact hd)
      exact ⟨g2, by rw [e1, e2]; rfl, f1.tr f2⟩
/-- the steps from b to e -/
def opW (w : Nat → Int) (b e : Nat) : List (Int × Int) := (List.range (e - b)).map fun k => (w (550 + 2 * (b + k)), w (550 + 2 * (b + k) + 1))
theorem opW_at (w : Nat → Int) (b e : Nat) : StAt w b (opW w b e) := by
  intro k hk
  unfold opW at hk ⊢
  rw [List.length_map, List.length_range] at hk
  rw [List.getD_eq_getElem?_getD, List.getElem?_map, List.getElem?_range hk]
  exact ⟨rfl, rfl⟩
theorem opW_len (w : Nat → Int) (b e : Nat) : (opW w b e).length = e - b := by unfold opW; simp
def evW (w : Nat → Int) (f : Nat → Int) (b e : Nat) : Int := (exO f (opW w b e) []).getD 0 0
theorem m_comesTo (d : Nat) (f w : Nat → Int) (b e : Nat) (g : zG) (hw : g 46 0 = w) (hf : ∀ s, 1 ≤ s → s ≤ 7 → g 53 0 s = f s) (hb : b ≤ e) (he : e ≤ 400) (hd : dpO (opW w b e) 0 = some 1) : ∃ g', EvM (d + 1) 173 [.inr (12, 0), .inl (b : Int), .inl (e : Int)] g = some (some (.inl (evW w f b e)), g') ∧ Fr sPile g g' := by
  have hl := opW_len w b e
  obtain ⟨g', h1, h2⟩ := m_comeL d f w b (opW w b e) b e none none [] g 0 hw hf (by omega) he (opW_at w b e) (fun k hk => by simp at hk) (by simp; omega) hd
  refine ⟨g', ?_, h2⟩
  rw [en173]
  simp only [e173_0, e173_1, e173_2, e173_3, e173_7, e173_8, e173_11, e173_12, e173_15, e173_18, e173_19, e173_21, e173_22, e173_23, e173_24, e173_26, e173_27, e173_30, e173_33, e173_34, e173_36, e173_37, e173_38, e173_39, e173_40, e173_41, e173_43, e173_45, e173_47, e173_50, e173_51, e173_54, e173_55, e173_57, e173_60, e173_62, e173_65, e173_66, e173_69, e173_71, e173_72, e173_73, e173_76, e173_79, e173_81, e173_83, e173_86, e173_87, e173_90, e173_91, e173_92, e173_93, e173_94, e173_95, e173_97, e173_98, e173_99, e173_102, e173_104, e173_106, e173_109, e173_110, e173_113, e173_114, e173_115, e173_116, e173_117, e173_118, e173_121, e173_122, e173_123, e173_124, e173_125, e173_126, e173_127, e173_130, e173_133, e173_134, e173_137, e173_138, e173_139, e173_140, e173_142, e173_143, e173_146, e173_147, e173_148, e173_149, e173_150, e173_151, e173_154, e173_155, e173_156, e173_159, e173_160, e173_163, e173_166, e173_167, e173_170, e173_171, e173_172]
  exact h1
/-- the law is one that can be reckoned -/
def LwOk (w : Nat → Int) : Prop := 0 ≤ w 485 ∧ w 485 ≤ 16 ∧ ∀ i, i < (w 485).toNat → 0 ≤ w (490 + i) ∧ w (490 + i) ≤ w (510 + i) ∧ w (510 + i) ≤ w (530 + i) ∧ w (530 + i) ≤ 400 ∧ dpO (opW w (w (490 + i)).toNat (w (510 + i)).toNat) 0 = some 1 ∧ (w (530 + i) = w (510 + i) ∨ dpO (opW w (w (510 + i)).toNat (w (530 + i)).toNat) 0 = some 1)
def clp (x : Int) : Int := if x < 0 then 0 else if 1000 < x then 1000 else x
def lnW (w f : Nat → Int) : Nat → Nat → Int
  | 0, _ => 0
  | n + 1, i => if w (530 + i) = w (510 + i) ∨ evW w f (w (510 + i)).toNat (w (530 + i)).toNat = 1 then clp (evW w f (w (490 + i)).toNat (w (510 + i)).toNat) else lnW w f n (i + 1)
theorem m_oddsL (d : Nat) (f w : Nat → Int) (p : Int) (h : LwOk w) : ∀ (n i : Nat) (g : zG), g 46 0 = w → (∀ s, 1 ≤ s → s ≤ 7 → g 53 0 s = f s) → i + n = (w 485).toNat → ∃ g', Ev (d + 2) 171 96 [some (.inr (12, 0)), some (.inl p), some (.inl (i : Int))] [] g = some (some (.inl (lnW w f n i)), g') ∧ Fr sPile g g' := by
  intro n
  induction n with
  | zero =>
    intro i g hw hf hi
    refine ⟨g, ?_, Fr.rf⟩
    have h0 := h.1
    have hl : g 46 0 485 = w 485 := by rw [hw]
    rw [e171_96]
    simp only [e171_0, e171_1, e171_4, e171_5, e171_6, e171_9, e171_10, e171_11, e171_14, e171_15, e171_16, e171_17, e171_18, e171_21, e171_24, e171_25, e171_28, e171_29, e171_30, e171_33, e171_34, e171_35, e171_38, e171_39, e171_40, e171_43, e171_44, e171_45, e171_48, e171_50, e171_51, e171_52, e171_53, e171_54, e171_55, e171_58, e171_59, e171_60, e171_63, e171_65, e171_66, e171_67, e171_68, e171_69, e171_70, e171_73, e171_75, e171_76, e171_79, e171_80, e171_81, e171_84, e171_86, e171_87, e171_90, e171_92, e171_93, e171_94, e171_95, e171_97, e171_98, e171_101, e171_104, e171_105, e171_108, e171_109, e171_112, e171_115, e171_116, e171_117, e171_118, e171_119, e171_122, e171_125, e171_126, e171_127, e171_128, e171_131, e171_132, e171_133, e171_136, e171_139, e171_140, e171_141, e171_142, e171_143, e171_146, e171_149, e171_150, e171_151, e171_152, e171_155, e171_156, e171_159, e171_160, e171_163, e171_164, e171_165, e171_168, e171_171, e171_172, e171_173, e171_174, e171_175, e171_178, e171_181, e171_182, e171_183, e171_184, e171_187, e171_190, e171_193, e171_194, e171_197, e171_200, e171_201, zU_app, zbI_some, zbV_some, Int.reduceToNat, Int.reduceLE, Int.reduceLT, Int.reduceEq, Nat.reduceEqDiff, and_self, and_true, true_and, and_false, false_and, if_true, if_false, ne_eq, not_true_eq_false, not_false_eq_true, reduceCtorEq, hl]
    rw [if_pos (by omega)]
    rfl
  | succ n ih =>
    intro i g hw hf hi
    have h0 := h.1
    have h16 := h.2.1
    obtain ⟨a1, a2, a3, a4, a5, a6⟩ := h.2.2 i (by omega)
    have hl : g 46 0 485 = w 485 := by rw [hw]
    have x1 : (490 + (i : Int)).toNat = 490 + i := by omega
    have x2 : (510 + (i : Int)).toNat = 510 + i := by omega
    have x3 : (530 + (i : Int)).toNat = 530 + i := by omega
    have y1 : ∀ g' : zG, g' 46 0 = w → g' 46 0 (490 + i) = w (490 + i) := fun g' e => by rw [e]
    have y2 : ∀ g' : zG, g' 46 0 = w → g' 46 0 (510 + i) = w (510 + i) := fun g' e => by rw [e]
    have y3 : ∀ g' : zG, g' 46 0 = w → g' 46 0 (530 + i) = w (530 + i) := fun g' e => by rw [e]
    obtain ⟨b1, hb1⟩ : ∃ b1 : Nat, w (490 + i) = (b1 : Int) := ⟨(w (490 + i)).toNat, by omega⟩
    obtain ⟨b2, hb2⟩ : ∃ b2 : Nat, w (510 + i) = (b2 : Int) := ⟨(w (510 + i)).toNat, by omega⟩
    obtain ⟨b3, hb3⟩ : ∃ b3 : Nat, w (530 + i) = (b3 : Int) := ⟨(w (530 + i)).toNat, by omega⟩
    rw [hb1] at a1 a2 y1
    rw [hb2] at a2 a3 y2
    rw [hb3] at a3 a4 y3
    rw [hb1, hb2] at a5
    rw [hb2, hb3] at a6
    simp only [Int.toNat_natCast] at a5 a6
    rw [lnW, hb1, hb2, hb3]
    simp only [Int.toNat_natCast]
    -- the odds of this line
    have take : ∀ g1 : zG, g1 46 0 = w → (∀ s, 1 ≤ s → s ≤ 7 → g1 53 0 s = f s) → ∃ g', Ev (d + 2) 171 159 [some (.inr (12, 0)), some (.inl p), some (.inl (i : Int))] [] g1 = some (some (.inl (clp (evW w f b1 b2))), g') ∧ Fr sPile g1 g' := by
      intro g1 hw1 hf1
      obtain ⟨g2, c1, c2⟩ := m_comesTo d f w b1 b2 g1 hw1 hf1 (by omega) (by omega) a5
      refine ⟨g2, ?_, c2⟩
      simp only [e171_0, e171_1, e171_4, e171_5, e171_6, e171_9, e171_10, e171_11, e171_14, e171_15, e171_16, e171_17, e171_18, e171_21, e171_24, e171_25, e171_28, e171_29, e171_30, e171_33, e171_34, e171_35, e171_38, e171_39, e171_40, e171_43, e171_44, e171_45, e171_48, e171_50, e171_51, e171_52, e171_53, e171_54, e171_55, e171_58, e171_59, e171_60, e171_63, e171_65, e171_66, e171_67, e171_68, e171_69, e171_70, e171_73, e171_75, e171_76, e171_79, e171_80, e171_81, e171_84, e171_86, e171_87, e171_90, e171_92, e171_93, e171_94, e171_95, e171_97, e171_98, e171_101, e171_104, e171_105, e171_108, e171_109, e171_112, e171_115, e171_116, e171_117, e171_118, e171_119, e171_122, e171_125, e171_126, e171_127, e171_128, e171_131, e171_132, e171_133, e171_136, e171_139, e171_140, e171_141, e171_142, e171_143, e171_146, e171_149, e171_150, e171_151, e171_152, e171_155, e171_156, e171_159, e171_160, e171_163, e171_164, e171_165, e171_168, e171_171, e171_172, e171_173, e171_174, e171_175, e171_178, e171_181, e171_182, e171_183, e171_184, e171_187, e171_190, e171_193, e171_194, e171_197, e171_200, e171_201]
      rw [zwr_id (x := 490 + (i : Int)) (by omega) (by omega), zwr_id (x := 510 + (i : Int)) (by omega) (by omega), if_pos (by omega), if_pos (by omega), x1, x2, y1 g1 hw1, y2 g1 hw1, c1]
      simp only [zbI_some, m_least, m_most]
      congr 4
      unfold clp
      by_cases q1 : evW w f b1 b2 < 0
      · simp (disch := omega) only [if_pos, if_neg]
      · by_cases q2 : 1000 < evW w f b1 b2
        · simp (disch := omega) only [if_pos, if_neg]
        · by_cases q3 : evW w f b1 b2 = 1000
          · simp (disch := omega) only [if_pos, if_neg]
            try omega
          · by_cases q4 : evW w f b1 b2 = 0
            · simp (disch := omega) only [if_pos, if_neg]
              try omega
            · simp (disch := omega) only [if_pos, if_neg]
    rw [e171_96]
    simp only [e171_0, e171_1, e171_4, e171_5, e171_6, e171_9, e171_10, e171_11, e171_14, e171_15, e171_16, e171_17, e171_18, e171_21, e171_24, e171_25, e171_28, e171_29, e171_30, e171_33, e171_34, e171_35, e171_38, e171_39, e171_40, e171_43, e171_44, e171_45, e171_48, e171_50, e171_51, e171_52, e171_53, e171_54, e171_55, e171_58, e171_59, e171_60, e171_63, e171_65, e171_66, e171_67, e171_68, e171_69, e171_70, e171_73, e171_75, e171_76, e171_79, e171_80, e171_81, e171_84, e171_86, e171_87, e171_90, e171_92, e171_93, e171_94, e171_95, e171_97, e171_98, e171_101, e171_104, e171_105, e171_108, e171_109, e171_112, e171_115, e171_116, e171_117, e171_118, e171_119, e171_122, e171_125, e171_126, e171_127, e171_128, e171_131, e171_132, e171_133, e171_136, e171_139, e171_140, e171_141, e171_142, e171_143, e171_146, e171_149, e171_150, e171_151, e171_152, e171_155, e171_156, e171_160, e171_163, e171_164, e171_165, e171_168, e171_171, e171_172, e171_173, e171_174, e171_175, e171_178, e171_181, e171_182, e171_183, e171_184, e171_187, e171_190, e171_193, e171_194, e171_197, e171_200, e171_201, zU_app, zbI_some, zbV_some, Int.reduceToNat, Int.reduceLE, Int.reduceLT, Int.reduceEq, Nat.reduceEqDiff, and_self, and_true, true_and, and_false, false_and, if_true, if_false, ne_eq, not_true_eq_false, not_false_eq_true, reduceCtorEq, hl]
    rw [if_neg (by omega), zwr_id (x := 530 + (i : Int)) (by omega) (by omega), zwr_id (x := 510 + (i : Int)) (by omega) (by omega), if_pos (by omega), if_pos (by omega), x2, x3, y2 g hw, y3 g hw]
    by_cases he : (b3 : Int) = (b2 : Int)
    · rw [if_pos he, if_pos (Or.inl he)]
      exact take g hw hf
    · rw [if_neg he]
      have a6 := a6.resolve_left he
      obtain ⟨g1, c1, c2⟩ := m_comesTo d f w b2 b3 g hw hf (by omega) (by omega) a6
      have hw1 : g1 46 0 = w := (c2.fn (fun i => by simp [sPile])).trans hw
      have hf1 : ∀ s, 1 ≤ s → s ≤ 7 → g1 53 0 s = f s := fun s h1 h2 => by rw [c2 53 0 s (by simp [sPile])]; exact hf s h1 h2
      rw [if_pos (by omega), if_pos (by omega), c1, zbI_some]
      by_cases hv : evW w f b2 b3 = 1
      · rw [if_neg (fun q => q hv), if_pos (Or.inr hv)]
        obtain ⟨g2, t1, t2⟩ := take g1 hw1 hf1
        exact ⟨g2, t1, c2.tr t2⟩
      · rw [if_pos hv, if_neg (by rintro (q | q); exact he q; exact hv q), zwr_id (by omega) (by omega)]
        obtain ⟨g2, t1, t2⟩ := ih (i + 1) g1 hw1 hf1 (by omega)
        exact ⟨g2, t1, c2.tr t2⟩
/-- what a line may ask -/
def fcW (w : Nat → Int) (p v : Nat) (turned : Int) : Nat → Int := fun s => if s = 1 then (v : Int) else if s = 2 then (ctW w v (-1) : Int) else if s = 3 then turned else if s = 4 then w (20 + p) else if s = 5 then w (9 + p) else if s = 6 then (rnW w v : Int) else w 19
def odW (w : Nat → Int) (p v : Nat) (turned : Int) : Int := lnW w (fcW w p v turned) (w 485).toNat 0
def sOdds : Nat → Nat → Nat → Prop := fun k _ _ => k = 52 ∨ k = 53
theorem m_oddsFor (d p v : Nat) (g : zG) (h : RuOk (g 46 0)) (hL : LwOk (g 46 0)) (hp : p < 8) (hv : g 12 0 22 = (v : Int)) (hv2 : 0 < v ∧ v < 10000) (hr : g 12 0 26 = (rnW (g 46 0) v : Int)) : ∃ g', EvM (d + 2) 171 [.inr (12, 0), .inl (p : Int)] g = some (some (.inl (odW (g 46 0) p v (g 12 0 25))), g') ∧ Fr sOdds g g' := by
  have hc : ∀ d (g' : zG), g' 46 0 = g 46 0 → EvM (d + 1) 172 [.inr (12, 0), .inl (maW (g 46 0) v : Int), .inl (-1)] g' = some (some (.inl (ctW (g 46 0) v (-1) : Int)), g') := fun d g' e => m_count' h d v (-1) g' e
  let g7 := zU (zU (zU (zU (zU (zU (zU g 53 0 1 v) 53 0 2 (ctW (g 46 0) v (-1))) 53 0 3 (g 12 0 25)) 53 0 4 (g 46 0 (20 + p))) 53 0 5 (g 46 0 (9 + p))) 53 0 6 (rnW (g 46 0) v)) 53 0 7 (g 46 0 19)
  have e7 : EvM (d + 2) 171 [.inr (12, 0), .inl (p : Int)] g = Ev (d + 2) 171 96 [some (.inr (12, 0)), some (.inl (p : Int)), some (.inl 0)] [] g7 := by
    rw [en171]
    have z1 : zwr (20 + (p : Int)) = 20 + p := zwr_id (by omega) (by omega)
    have z2 : zwr (9 + (p : Int)) = 9 + p := zwr_id (by omega) (by omega)
    have z3 : 0 ≤ 20 + (p : Int) ∧ 20 + (p : Int) < 1370 := by omega
    have z4 : 0 ≤ 9 + (p : Int) ∧ 9 + (p : Int) < 1370 := by omega
    have z5 : (20 + (p : Int)).toNat = 20 + p := by omega
    have z6 : (9 + (p : Int)).toNat = 9 + p := by omega
    simp only [e171_0, e171_1, e171_4, e171_5, e171_6, e171_9, e171_10, e171_11, e171_14, e171_15, e171_16, e171_17, e171_18, e171_21, e171_24, e171_25, e171_28, e171_29, e171_30, e171_33, e171_34, e171_35, e171_38, e171_39, e171_40, e171_43, e171_44, e171_45, e171_48, e171_50, e171_51, e171_52, e171_53, e171_54, e171_55, e171_58, e171_59, e171_60, e171_63, e171_65, e171_66, e171_67, e171_68, e171_69, e171_70, e171_73, e171_75, e171_76, e171_79, e171_80, e171_81, e171_84, e171_86, e171_87, e171_90, e171_92, e171_93, e171_94, e171_95, e171_97, e171_98, e171_101, e171_104, e171_105, e171_108, e171_109, e171_112, e171_115, e171_116, e171_117, e171_118, e171_119, e171_122, e171_125, e171_126, e171_127, e171_128, e171_131, e171_132, e171_133, e171_136, e171_139, e171_140, e171_141, e171_142, e171_143, e171_146, e171_149, e171_150, e171_151, e171_152, e171_155, e171_156, e171_159, e171_160, e171_163, e171_164, e171_165, e171_168, e171_171, e171_172, e171_173, e171_174, e171_175, e171_178, e171_181, e171_182, e171_183, e171_184, e171_187, e171_190, e171_193, e171_194, e171_197, e171_200, e171_201, zU_app, zbI_some, zbV_some, Int.reduceToNat, Int.reduceLE, Int.reduceLT, Int.reduceEq, Nat.reduceEqDiff, and_self, and_true, true_and, and_false, false_and, if_true, if_false, ne_eq, not_true_eq_false, not_false_eq_true, reduceCtorEq, hv, m_rules' h _ _ (zU g 53 0 1 (v : Int)) rfl hv2.1 hv2.2, hc _ (zU g 53 0 1 (v : Int)) rfl, z1, z2, if_pos z3, if_pos z4, z5, z6, hr]
    rfl
  obtain ⟨g', c1, c2⟩ := m_oddsL d (fcW (g 46 0) p v (g 12 0 25)) (g 46 0) p hL (g 46 0 485).toNat 0 g7 rfl (by
    intro s h1 h2
    rcases (show s = 1 ∨ s = 2 ∨ s = 3 ∨ s = 4 ∨ s = 5 ∨ s = 6 ∨ s = 7 by omega) with rfl | rfl | rfl | rfl | rfl | rfl | rfl <;> rfl) (by omega)
  refine ⟨g', by rw [e7]; exact c1, ?_⟩
  have f7 : Fr sOdds g g7 := (((((((Fr.u (Or.inr rfl)).tr (Fr.u (Or.inr rfl))).tr (Fr.u (Or.inr rfl))).tr (Fr.u (Or.inr rfl))).tr (Fr.u (Or.inr rfl))).tr (Fr.u (Or.inr rfl))).tr (Fr.u (Or.inr rfl)))
  exact f7.tr (c2.up (fun k j i q => Or.inl q))
