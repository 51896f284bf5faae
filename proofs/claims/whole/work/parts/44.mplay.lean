/-! the model: draw, errs -/
def zRw (g : zG) (w : Nat → Int) : zG := fun k j => if k = 46 ∧ j = 0 then w else g k j
theorem zRw_at (g : zG) (w : Nat → Int) : zRw g w 46 0 = w := if_pos ⟨rfl, rfl⟩
theorem zRw_ne {g : zG} {w : Nat → Int} {k j : Nat} (h : ¬ (k = 46 ∧ j = 0)) : zRw g w k j = g k j := if_neg h
theorem zU_zRw (g : zG) (w : Nat → Int) (i : Nat) (x : Int) : zU (zRw g w) 46 0 i x = zRw g (uW w i x) := by
  funext k j n
  by_cases h : k = 46 ∧ j = 0
  · obtain ⟨rfl, rfl⟩ := h
    rw [zRw_at, zU_row, zRw_at]
  · rw [zU_ne (fun q => h ⟨q.1, q.2.1⟩), zRw_ne h, zRw_ne h]
theorem zRw_self (g : zG) : zRw g (g 46 0) = g := by
  funext k j
  by_cases h : k = 46 ∧ j = 0
  · obtain ⟨rfl, rfl⟩ := h
    rw [zRw_at]
  · rw [zRw_ne h]
theorem zRw_of {g : zG} {w : Nat → Int} (h : g 46 0 = w) : g = zRw g w := by subst h; exact (zRw_self g).symm
def drN (s : Int) : Int := zwr (zwr (1664525 * s) + 1013904223)
def drV (s n : Int) : Int := Int.tmod (zushr s 8) n
theorem m_draw (d : Nat) (n : Int) (g : zG) (w : Nat → Int) (hn : n ≠ 0) : EvM d 177 [.inr (12, 0), .inl n] (zRw g w) = some (some (.inl (drV (drN (w 7)) n)), zRw g (uW w 7 (drN (w 7)))) := by
  rw [en177]
  simp only [e177_0, e177_1, e177_4, e177_6, e177_8, e177_9, e177_12, e177_14, e177_15, e177_16, e177_18, e177_19, e177_20, e177_21, e177_24, e177_26, e177_27, e177_29, e177_30, e177_31, e177_32, zU_app, zbI_some, zbV_some, Int.reduceToNat, Int.reduceLE, Int.reduceLT, Int.reduceEq, Nat.reduceEqDiff, and_self, and_true, true_and, and_false, false_and, if_true, if_false, ne_eq, not_true_eq_false, not_false_eq_true, reduceCtorEq, zRw_at, zU_zRw, uW_eq]
  rw [if_neg hn]
  rfl
def glS (w : Nat → Int) : Nat → Nat → Int → Int
  | 0, _, n => n
  | m + 1, i, n => glS w m (i + 1) (n + w (9 + i))
def glW (w : Nat → Int) : Int := glS w (w 17).toNat 0 0
def GlOk (w : Nat → Int) : Prop := ∀ p, p < 8 → 0 ≤ w (9 + p) ∧ w (9 + p) ≤ 9999
theorem m_glL {w : Nat → Int} (hg : GlOk w) (h17 : w 17 ≤ 8) (d : Nat) (g : zG) (hw : g 46 0 = w) : ∀ (m i : Nat) (n : Int), ((i + m : Nat) : Int) = w 17 → (0 ≤ n ∧ n ≤ 9999 * (i : Int)) → Ev d 179 4 [some (.inr (12, 0)), some (.inl n), some (.inl (i : Int))] [] g = some (some (.inl (glS w m i n)), g) := by
  intro m
  induction m with
  | zero =>
    intro i n h hn
    rw [e179_4]
    simp only [e179_0, e179_1, e179_2, e179_3, e179_5, e179_6, e179_9, e179_11, e179_12, e179_15, e179_16, e179_17, e179_20, e179_22, e179_23, e179_24, e179_25, e179_26, e179_27, e179_30, e179_33, e179_34, zU_app, zbI_some, zbV_some, Int.reduceToNat, Int.reduceLE, Int.reduceLT, Int.reduceEq, Nat.reduceEqDiff, and_self, and_true, true_and, and_false, false_and, if_true, if_false, ne_eq, not_true_eq_false, not_false_eq_true, reduceCtorEq, hw]
    rw [if_pos (by omega)]
    rfl
  | succ m ih =>
    intro i n h hn
    have n1 : (i : Int) + 1 = ((i + 1 : Nat) : Int) := by omega
    have := hg i (by omega)
    rw [e179_4]
    simp only [e179_0, e179_1, e179_2, e179_3, e179_5, e179_6, e179_9, e179_11, e179_12, e179_15, e179_16, e179_17, e179_20, e179_22, e179_23, e179_24, e179_25, e179_26, e179_27, e179_30, e179_33, e179_34, zU_app, zbI_some, zbV_some, Int.reduceToNat, Int.reduceLE, Int.reduceLT, Int.reduceEq, Nat.reduceEqDiff, and_self, and_true, true_and, and_false, false_and, if_true, if_false, ne_eq, not_true_eq_false, not_false_eq_true, reduceCtorEq, hw]
    rw [if_neg (by omega), zwr_id (x := 9 + (i : Int)) (by omega) (by omega), if_pos (by omega), show (9 + (i : Int)).toNat = 9 + i by omega, zwr_id (x := n + w (9 + i)) (by omega) (by omega), zwr_id (x := (i : Int) + 1) (by omega) (by omega), n1]
    exact ih (i + 1) _ (by omega) (by omega)
theorem m_glasses {w : Nat → Int} (hg : GlOk w) (h17 : 0 ≤ w 17 ∧ w 17 ≤ 8) (d : Nat) (g : zG) (hw : g 46 0 = w) : EvM d 179 [.inr (12, 0)] g = some (some (.inl (glW w)), g) := by
  rw [en179]
  simp only [e179_0, e179_1, e179_2, e179_3, e179_5, e179_6, e179_9, e179_11, e179_12, e179_15, e179_16, e179_17, e179_20, e179_22, e179_23, e179_24, e179_25, e179_26, e179_27, e179_30, e179_33, e179_34]
  exact m_glL hg h17.2 d g hw _ 0 0 (by omega) (by omega)
/-- a glass more -/
def gmW (w : Nat → Int) (p : Nat) : Nat → Int := uW w (9 + p) (if 9999 < w (9 + p) + 1 then 9999 else w (9 + p) + 1)
/-- a page more -/
def pgW (w : Nat → Int) (p : Nat) (v : Int) : Nat → Int :=
  if w 6 < 100 then uW (uW (uW (uW (uW w (80 + 4 * (w 6).toNat) v) (80 + 4 * (w 6).toNat + 1) p) (80 + 4 * (w 6).toNat + 2) (w 8)) (80 + 4 * (w 6).toNat + 3) (glW w)) 6 (w 6 + 1) else w
def rsW (w : Nat → Int) : Nat → Int := uW (uW (uW w 0 1) 2 1) 3 0
theorem glS_cg {w w' : Nat → Int} (h : ∀ i, i < 8 → w' (9 + i) = w (9 + i)) : ∀ (m i : Nat) (n : Int), i + m ≤ 8 → glS w' m i n = glS w m i n := by
  intro m
  induction m with
  | zero => intros; rfl
  | succ m ih =>
    intro i n hm
    rw [glS, glS, h i (by omega), ih (i + 1) _ (by omega)]
theorem glW_cg {w w' : Nat → Int} (h17 : w' 17 = w 17) (hm : w 17 ≤ 8) (h : ∀ i, i < 8 → w' (9 + i) = w (9 + i)) : glW w' = glW w := by
  unfold glW
  rw [h17, glS_cg h _ _ _ (by omega)]
theorem GlOk.cg {w w' : Nat → Int} (h : ∀ i, i < 8 → w' (9 + i) = w (9 + i)) (hg : GlOk w) : GlOk w' := fun p hp => by rw [h p hp]; exact hg p hp
theorem gmW_ok {w : Nat → Int} {p : Nat} (hg : GlOk w) (hp : p < 8) : GlOk (gmW w p) := by
  intro q hq
  have h1 := hg q hq
  have h2 := hg p hp
  unfold gmW
  by_cases e : q = p
  · subst e
    rw [uW_eq]
    split <;> omega
  · rw [uW_ne (by omega)]
    exact h1
theorem gmW_ne {w : Nat → Int} {p i : Nat} (h : i ≠ 9 + p) : gmW w p i = w i := uW_ne h
theorem m_errs1 (d p : Nat) (g : zG) (w : Nat → Int) (hp : p < 8) (hg : GlOk w) : EvM (d + 1) 178 [.inr (12, 0), .inl (p : Int)] (zRw g w) = Ev (d + 1) 178 26 [some (.inr (12, 0)), some (.inl (p : Int)), none] [] (zRw g (gmW w p)) := by
  have := hg p hp
  rw [en178]
  simp only [e178_0, e178_1, e178_4, e178_6, e178_7, e178_8, e178_11, e178_12, e178_15, e178_17, e178_18, e178_19, e178_20, e178_21, e178_22, e178_25, e178_27, e178_30, e178_32, e178_33, e178_35, e178_38, e178_40, e178_41, e178_42, e178_45, e178_47, e178_48, e178_49, e178_50, e178_51, e178_52, e178_55, e178_56, e178_57, e178_60, e178_61, e178_62, e178_65, e178_66, e178_67, e178_68, e178_69, e178_70, e178_71, e178_74, e178_75, e178_76, e178_77, e178_78, e178_81, e178_83, e178_84, e178_85, e178_86, e178_89, e178_90, e178_91, e178_92, e178_93, e178_96, e178_97, e178_98, e178_101, e178_103, e178_104, e178_105, e178_106, e178_107, e178_108, e178_109, e178_112, e178_113, e178_114, e178_115, e178_116, e178_119, e178_120, e178_121, e178_122, e178_123, e178_126, e178_127, e178_128, e178_129, zU_app, zbI_some, zbV_some, Int.reduceToNat, Int.reduceLE, Int.reduceLT, Int.reduceEq, Nat.reduceEqDiff, and_self, and_true, true_and, and_false, false_and, if_true, if_false, ne_eq, not_true_eq_false, not_false_eq_true, reduceCtorEq, zRw_at, zU_zRw, m_least]
  rw [zwr_id (x := 9 + (p : Int)) (by omega) (by omega), if_pos (by omega), if_pos (by omega), show (9 + (p : Int)).toNat = 9 + p by omega, zwr_id (by omega) (by omega)]
  rfl
theorem m_errs2 (d p : Nat) (v : Int) (g : zG) (w : Nat → Int) (hp : p < 8) (hg : GlOk w) (h17 : 0 ≤ w 17 ∧ w 17 ≤ 8) (h6 : 0 ≤ w 6 ∧ w 6 ≤ 100) (hv : g 12 0 22 = v) : ∃ u, Ev (d + 1) 178 26 [some (.inr (12, 0)), some (.inl (p : Int)), none] [] (zRw g w) = Ev (d + 1) 178 108 [some (.inr (12, 0)), some (.inl (p : Int)), u] [] (zRw g (pgW w p v)) := by
  have hn : zRw g w 12 0 22 = v := by rw [zRw_ne (by omega)]; exact hv
  by_cases h : w 6 < 100
  · obtain ⟨n, hn6⟩ : ∃ n : Nat, w 6 = (n : Int) := ⟨(w 6).toNat, by omega⟩
    refine ⟨some (.inl (80 + 4 * (n : Int))), ?_⟩
    unfold pgW
    rw [if_pos h]
    rw [hn6] at h ⊢
    simp only [e178_0, e178_1, e178_4, e178_6, e178_7, e178_8, e178_11, e178_12, e178_15, e178_17, e178_18, e178_19, e178_20, e178_21, e178_22, e178_25, e178_26, e178_27, e178_30, e178_32, e178_33, e178_35, e178_38, e178_40, e178_41, e178_42, e178_45, e178_47, e178_48, e178_49, e178_50, e178_52, e178_55, e178_56, e178_57, e178_60, e178_61, e178_62, e178_65, e178_66, e178_67, e178_68, e178_69, e178_70, e178_71, e178_74, e178_75, e178_76, e178_77, e178_78, e178_81, e178_83, e178_84, e178_85, e178_86, e178_89, e178_90, e178_91, e178_92, e178_93, e178_96, e178_97, e178_98, e178_101, e178_103, e178_104, e178_105, e178_106, e178_107, e178_109, e178_112, e178_113, e178_114, e178_115, e178_116, e178_119, e178_120, e178_121, e178_122, e178_123, e178_126, e178_127, e178_128, e178_129, zU_app, zbI_some, zbV_some, Int.reduceToNat, Int.reduceLE, Int.reduceLT, Int.reduceEq, Nat.reduceEqDiff, and_self, and_true, true_and, and_false, false_and, if_true, if_false, ne_eq, not_true_eq_false, not_false_eq_true, reduceCtorEq, zRw_at, zU_zRw, hn6]
    rw [if_neg (by omega), zwr_id (x := 4 * (n : Int)) (by omega) (by omega), zwr_id (x := 80 + 4 * (n : Int)) (by omega) (by omega)]
    simp only [e178_0, e178_1, e178_4, e178_6, e178_7, e178_8, e178_11, e178_12, e178_15, e178_17, e178_18, e178_19, e178_20, e178_21, e178_22, e178_25, e178_26, e178_27, e178_30, e178_32, e178_33, e178_35, e178_38, e178_40, e178_41, e178_42, e178_45, e178_47, e178_48, e178_49, e178_50, e178_51, e178_52, e178_55, e178_56, e178_57, e178_60, e178_61, e178_62, e178_65, e178_66, e178_67, e178_68, e178_69, e178_70, e178_71, e178_74, e178_75, e178_76, e178_77, e178_78, e178_81, e178_83, e178_84, e178_85, e178_86, e178_89, e178_90, e178_91, e178_92, e178_93, e178_96, e178_97, e178_98, e178_101, e178_103, e178_104, e178_105, e178_106, e178_107, e178_109, e178_112, e178_113, e178_114, e178_115, e178_116, e178_119, e178_120, e178_121, e178_122, e178_123, e178_126, e178_127, e178_128, e178_129, zU_app, zbI_some, zbV_some, Int.reduceToNat, Int.reduceLE, Int.reduceLT, Int.reduceEq, Nat.reduceEqDiff, and_self, and_true, true_and, and_false, false_and, if_true, if_false, ne_eq, not_true_eq_false, not_false_eq_true, reduceCtorEq, zRw_at, zU_zRw, hn]
    rw [if_pos (by omega), zwr_id (x := 80 + 4 * (n : Int) + 1) (by omega) (by omega), zwr_id (x := 80 + 4 * (n : Int) + 2) (by omega) (by omega), zwr_id (x := 80 + 4 * (n : Int) + 3) (by omega) (by omega), show (80 + 4 * (n : Int)).toNat = 80 + 4 * n by omega, show (80 + 4 * (n : Int) + 1).toNat = 80 + 4 * n + 1 by omega, show (80 + 4 * (n : Int) + 2).toNat = 80 + 4 * n + 2 by omega, show (80 + 4 * (n : Int) + 3).toNat = 80 + 4 * n + 3 by omega]
    have c8 : uW (uW w (80 + 4 * n) v) (80 + 4 * n + 1) (p : Int) 8 = w 8 := by rw [uW_ne (by omega), uW_ne (by omega)]
    rw [if_pos (by omega), if_pos (by omega), c8]
    have cg : ∀ i, i < 80 → uW (uW (uW w (80 + 4 * n) v) (80 + 4 * n + 1) (p : Int)) (80 + 4 * n + 2) (w 8) i = w i := fun i hi => by rw [uW_ne (by omega), uW_ne (by omega), uW_ne (by omega)]
    rw [m_glasses (w := uW (uW (uW w (80 + 4 * n) v) (80 + 4 * n + 1) (p : Int)) (80 + 4 * n + 2) (w 8)) (hg.cg (fun i hi => cg _ (by omega))) (by rw [cg 17 (by omega)]; exact h17) d _ (zRw_at _ _), zbI_some, glW_cg (cg 17 (by omega)) h17.2 (fun i hi => cg _ (by omega)), if_pos (by omega), zU_zRw, zRw_at, if_neg (show ¬ (6 : Nat) = 80 + 4 * n + 3 by omega), cg 6 (by omega), hn6, zwr_id (by omega) (by omega), zU_zRw, Int.toNat_natCast]
  · refine ⟨none, ?_⟩
    unfold pgW
    rw [if_neg h]
    simp only [e178_0, e178_1, e178_4, e178_6, e178_7, e178_8, e178_11, e178_12, e178_15, e178_17, e178_18, e178_19, e178_20, e178_21, e178_22, e178_25, e178_26, e178_27, e178_30, e178_32, e178_33, e178_35, e178_38, e178_40, e178_41, e178_42, e178_45, e178_47, e178_48, e178_49, e178_50, e178_51, e178_52, e178_55, e178_56, e178_57, e178_60, e178_61, e178_62, e178_65, e178_66, e178_67, e178_68, e178_69, e178_70, e178_71, e178_74, e178_75, e178_76, e178_77, e178_78, e178_81, e178_83, e178_84, e178_85, e178_86, e178_89, e178_90, e178_91, e178_92, e178_93, e178_96, e178_97, e178_98, e178_101, e178_103, e178_104, e178_105, e178_106, e178_107, e178_109, e178_112, e178_113, e178_114, e178_115, e178_116, e178_119, e178_120, e178_121, e178_122, e178_123, e178_126, e178_127, e178_128, e178_129, zU_app, zbI_some, zbV_some, Int.reduceToNat, Int.reduceLE, Int.reduceLT, Int.reduceEq, Nat.reduceEqDiff, and_self, and_true, true_and, and_false, false_and, if_true, if_false, ne_eq, not_true_eq_false, not_false_eq_true, reduceCtorEq, zRw_at]
    rw [if_pos (by omega)]
theorem m_errs3 (d : Nat) (p : Int) (u : Option zV) (g : zG) (w : Nat → Int) : Ev (d + 1) 178 108 [some (.inr (12, 0)), some (.inl p), u] [] (zRw g w) = some (none, zRw g (rsW w)) := by
  simp only [e178_0, e178_1, e178_4, e178_6, e178_7, e178_8, e178_11, e178_12, e178_15, e178_17, e178_18, e178_19, e178_20, e178_21, e178_22, e178_25, e178_26, e178_27, e178_30, e178_32, e178_33, e178_35, e178_38, e178_40, e178_41, e178_42, e178_45, e178_47, e178_48, e178_49, e178_50, e178_51, e178_52, e178_55, e178_56, e178_57, e178_60, e178_61, e178_62, e178_65, e178_66, e178_67, e178_68, e178_69, e178_70, e178_71, e178_74, e178_75, e178_76, e178_77, e178_78, e178_81, e178_83, e178_84, e178_85, e178_86, e178_89, e178_90, e178_91, e178_92, e178_93, e178_96, e178_97, e178_98, e178_101, e178_103, e178_104, e178_105, e178_106, e178_107, e178_108, e178_109, e178_112, e178_113, e178_114, e178_115, e178_116, e178_119, e178_120, e178_121, e178_122, e178_123, e178_126, e178_127, e178_128, e178_129, zU_app, zbI_some, zbV_some, Int.reduceToNat, Int.reduceLE, Int.reduceLT, Int.reduceEq, Nat.reduceEqDiff, and_self, and_true, true_and, and_false, false_and, if_true, if_false, ne_eq, not_true_eq_false, not_false_eq_true, reduceCtorEq, zU_zRw]
  rfl
/-- somebody errs -/
def erW (w : Nat → Int) (p : Nat) (v : Int) : Nat → Int := rsW (pgW (gmW w p) p v)
theorem m_errs (d p : Nat) (v : Int) (g : zG) (w : Nat → Int) (hp : p < 8) (hg : GlOk w) (h17 : 0 ≤ w 17 ∧ w 17 ≤ 8) (h6 : 0 ≤ w 6 ∧ w 6 ≤ 100) (hv : g 12 0 22 = v) : EvM (d + 1) 178 [.inr (12, 0), .inl (p : Int)] (zRw g w) = some (none, zRw g (erW w p v)) := by
  rw [m_errs1 d p g w hp hg]
  obtain ⟨u, hu⟩ := m_errs2 d p v g (gmW w p) hp (gmW_ok hg hp) (by rw [gmW_ne (by omega)]; exact h17) (by rw [gmW_ne (by omega)]; exact h6) hv
  rw [hu, m_errs3]
  rfl
