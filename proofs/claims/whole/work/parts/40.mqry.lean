/-! the model: words, sit, plain, behind, has, told, book, look -/
def aWords (w : Nat → Int) (s v : Int) : Int := if (0 ≤ s ∧ s < w 17) ∧ (1 ≤ v ∧ v ≤ 999) then wdW w v.toNat 1 0 1 (fun _ => 0) s.toNat else -1
theorem m_words {w : Nat → Int} (hR : RuOk w) (h17 : 0 ≤ w 17 ∧ w 17 ≤ 8) (hP : 0 < w 17 → PeOk w) (d : Nat) (s v : Int) (g : zG) (hw : g 46 0 = w) : ∃ g', EvM (d + 5) 211 [.inr (12, 0), .inl s, .inl v] g = some (some (.inl (aWords w s v)), g') ∧ Fr sWds g g' := by
  have hi := m_isPerson (d + 3) s g (by rw [hw]; omega)
  rw [hw] at hi
  unfold aWords
  by_cases h1 : 0 ≤ s ∧ s < w 17
  · rw [zb_t h1] at hi
    by_cases h2 : 1 ≤ v ∧ v ≤ 999
    · obtain ⟨g1, a1, a2, a3⟩ := m_lays hR (hP (by omega)) d v h2 g hw
      refine ⟨g1, ?_, a2⟩
      rw [en211]
      simp only [e211_0, e211_1, e211_2, e211_5, e211_8, e211_9, e211_10, e211_13, e211_16, e211_19, e211_20, e211_21, e211_22, e211_23, e211_26, e211_27, e211_30, e211_31, e211_32, hi, zU_app, zbI_some, zbV_some, Int.reduceToNat, Int.reduceLE, Int.reduceLT, Int.reduceEq, Nat.reduceEqDiff, and_self, and_true, true_and, and_false, false_and, if_true, if_false, ne_eq, not_true_eq_false, not_false_eq_true, reduceCtorEq, m_isIn, zb_t h2, a1]
      rw [if_pos (by omega), if_pos ⟨h1, h2⟩, a3 s.toNat (by omega)]
    · refine ⟨g, ?_, Fr.rf⟩
      rw [en211]
      simp only [e211_0, e211_1, e211_2, e211_5, e211_8, e211_9, e211_10, e211_13, e211_16, e211_19, e211_20, e211_21, e211_22, e211_23, e211_26, e211_27, e211_30, e211_31, e211_32, hi, zU_app, zbI_some, zbV_some, Int.reduceToNat, Int.reduceLE, Int.reduceLT, Int.reduceEq, Nat.reduceEqDiff, and_self, and_true, true_and, and_false, false_and, if_true, if_false, ne_eq, not_true_eq_false, not_false_eq_true, reduceCtorEq, m_isIn, zb_f h2]
      rw [if_neg (fun q => h2 q.2)]
  · rw [zb_f h1] at hi
    refine ⟨g, ?_, Fr.rf⟩
    rw [en211]
    simp only [e211_0, e211_1, e211_2, e211_5, e211_8, e211_9, e211_10, e211_13, e211_16, e211_19, e211_20, e211_21, e211_22, e211_23, e211_26, e211_27, e211_30, e211_31, e211_32, hi, zU_app, zbI_some, zbV_some, Int.reduceToNat, Int.reduceLE, Int.reduceLT, Int.reduceEq, Nat.reduceEqDiff, and_self, and_true, true_and, and_false, false_and, if_true, if_false, ne_eq, not_true_eq_false, not_false_eq_true, reduceCtorEq]
    rw [if_neg (fun q => h1 q.1)]
def btS (c : Nat → Int) : Nat → Nat → Nat → Nat
  | 0, _, b => b
  | m + 1, s, b => btS c m (s + 1) (if c s < c b then s else b)
theorem m_sitL (d : Nat) (v : Int) (c : Nat → Int) (g : zG) (hc : ∀ i, i < 8 → g 54 0 i = c i) (h17 : g 46 0 17 ≤ 8) : ∀ (m s b : Nat), ((s + m : Nat) : Int) = g 46 0 17 → b < 8 → Ev d 216 32 [some (.inr (12, 0)), some (.inl v), some (.inl (b : Int)), some (.inl (s : Int))] [] g = some (some (.inl (btS c m s b : Int)), g) := by
  intro m
  induction m with
  | zero =>
    intro s b h hb
    rw [e216_32]
    simp only [e216_0, e216_1, e216_4, e216_6, e216_7, e216_10, e216_11, e216_12, e216_15, e216_18, e216_21, e216_22, e216_23, e216_24, e216_25, e216_28, e216_29, e216_30, e216_31, e216_33, e216_34, e216_37, e216_39, e216_40, e216_43, e216_44, e216_47, e216_48, e216_49, e216_50, e216_53, e216_54, e216_55, e216_58, e216_59, e216_62, e216_63, e216_64, e216_67, e216_70, e216_71, zU_app, zbI_some, zbV_some, Int.reduceToNat, Int.reduceLE, Int.reduceLT, Int.reduceEq, Nat.reduceEqDiff, and_self, and_true, true_and, and_false, false_and, if_true, if_false, ne_eq, not_true_eq_false, not_false_eq_true, reduceCtorEq]
    rw [if_pos (by omega)]
    rfl
  | succ m ih =>
    intro s b h hb
    rw [e216_32]
    simp only [e216_0, e216_1, e216_4, e216_6, e216_7, e216_10, e216_11, e216_12, e216_15, e216_18, e216_21, e216_22, e216_23, e216_24, e216_25, e216_28, e216_29, e216_30, e216_31, e216_33, e216_34, e216_37, e216_39, e216_40, e216_43, e216_44, e216_47, e216_48, e216_49, e216_50, e216_53, e216_54, e216_55, e216_58, e216_59, e216_62, e216_63, e216_64, e216_67, e216_70, e216_71, zU_app, zbI_some, zbV_some, Int.reduceToNat, Int.reduceLE, Int.reduceLT, Int.reduceEq, Nat.reduceEqDiff, and_self, and_true, true_and, and_false, false_and, if_true, if_false, ne_eq, not_true_eq_false, not_false_eq_true, reduceCtorEq]
    rw [if_neg (by omega), if_pos (by omega), if_pos (by omega), show ((s : Int)).toNat = s by omega, show ((b : Int)).toNat = b by omega, hc s (by omega), hc b hb, btS, zwr_id (by omega) (by omega)]
    by_cases q : c s < c b
    · rw [if_neg (by omega), if_pos q]
      exact ih (s + 1) s (by omega) (by omega)
    · rw [if_pos (by omega), if_neg q]
      exact ih (s + 1) b (by omega) hb
def aSit (w : Nat → Int) (v : Int) : Int := if w 17 ≠ 0 ∧ (1 ≤ v ∧ v ≤ 999) then (btS (wdW w v.toNat 1 0 1 (fun _ => 0)) ((w 17).toNat - 1) 1 0 : Int) else -1
theorem m_sit {w : Nat → Int} (hR : RuOk w) (h17 : 0 ≤ w 17 ∧ w 17 ≤ 8) (hP : 0 < w 17 → PeOk w) (d : Nat) (v : Int) (g : zG) (hw : g 46 0 = w) : ∃ g', EvM (d + 5) 216 [.inr (12, 0), .inl v] g = some (some (.inl (aSit w v)), g') ∧ Fr sWds g g' := by
  have e17 : g 46 0 17 = w 17 := by rw [hw]
  unfold aSit
  by_cases h1 : w 17 = 0
  · refine ⟨g, ?_, Fr.rf⟩
    rw [en216]
    simp only [e216_0, e216_1, e216_4, e216_6, e216_7, e216_10, e216_11, e216_12, e216_15, e216_18, e216_21, e216_22, e216_23, e216_24, e216_25, e216_28, e216_29, e216_30, e216_31, e216_33, e216_34, e216_37, e216_39, e216_40, e216_43, e216_44, e216_47, e216_48, e216_49, e216_50, e216_53, e216_54, e216_55, e216_58, e216_59, e216_62, e216_63, e216_64, e216_67, e216_70, e216_71, zU_app, zbI_some, zbV_some, Int.reduceToNat, Int.reduceLE, Int.reduceLT, Int.reduceEq, Nat.reduceEqDiff, and_self, and_true, true_and, and_false, false_and, if_true, if_false, ne_eq, not_true_eq_false, not_false_eq_true, reduceCtorEq, e17, h1]
  · by_cases h2 : 1 ≤ v ∧ v ≤ 999
    · obtain ⟨g1, a1, a2, a3⟩ := m_lays hR (hP (by omega)) d v h2 g hw
      have f17 : g1 46 0 17 = w 17 := by rw [a2 46 0 17 (by simp [sWds, sCur]), e17]
      refine ⟨g1, ?_, a2⟩
      rw [en216]
      simp only [e216_0, e216_1, e216_4, e216_6, e216_7, e216_10, e216_11, e216_12, e216_15, e216_18, e216_21, e216_22, e216_23, e216_24, e216_25, e216_28, e216_29, e216_30, e216_31, e216_33, e216_34, e216_37, e216_39, e216_40, e216_43, e216_44, e216_47, e216_48, e216_49, e216_50, e216_53, e216_54, e216_55, e216_58, e216_59, e216_62, e216_63, e216_64, e216_67, e216_70, e216_71, zU_app, zbI_some, zbV_some, Int.reduceToNat, Int.reduceLE, Int.reduceLT, Int.reduceEq, Nat.reduceEqDiff, and_self, and_true, true_and, and_false, false_and, if_true, if_false, ne_eq, not_true_eq_false, not_false_eq_true, reduceCtorEq, e17, m_isIn, zb_t h2, a1]
      rw [if_neg h1, if_pos ⟨h1, h2⟩]
      exact m_sitL _ v _ g1 a3 (by omega) ((w 17).toNat - 1) 1 0 (by omega) (by omega)
    · refine ⟨g, ?_, Fr.rf⟩
      rw [en216]
      simp only [e216_0, e216_1, e216_4, e216_6, e216_7, e216_10, e216_11, e216_12, e216_15, e216_18, e216_21, e216_22, e216_23, e216_24, e216_25, e216_28, e216_29, e216_30, e216_31, e216_33, e216_34, e216_37, e216_39, e216_40, e216_43, e216_44, e216_47, e216_48, e216_49, e216_50, e216_53, e216_54, e216_55, e216_58, e216_59, e216_62, e216_63, e216_64, e216_67, e216_70, e216_71, zU_app, zbI_some, zbV_some, Int.reduceToNat, Int.reduceLE, Int.reduceLT, Int.reduceEq, Nat.reduceEqDiff, and_self, and_true, true_and, and_false, false_and, if_true, if_false, ne_eq, not_true_eq_false, not_false_eq_true, reduceCtorEq, e17, m_isIn, zb_f h2]
      rw [if_neg h1, if_neg (fun q => h2 q.2)]
/-- plain ones, the longest run, where it begins, the run: over k numbers from v on -/
def plW (w : Nat → Int) : Nat → Nat → Int × Int × Int × Int → Int × Int × Int × Int
  | 0, _, q => q
  | k + 1, v, (n, l, b, r) =>
    let r' := if maW w v = 0 then 0 else r + 1
    let n' := if maW w v = 0 then n + 1 else n
    plW w k (v + 1) (if l < r' then (n', r', (v : Int) - r' + 1, r') else (n', l, b, r'))
theorem m_isSpan (d : Nat) (a b : Int) (g : zG) : EvM (d + 1) 221 [.inl a, .inl b] g = some (some (.inl (zb (1 ≤ a ∧ a ≤ b ∧ b ≤ 9999))), g) := by
  rw [en221]
  simp only [e221_0, e221_1, e221_2, e221_3, e221_6, e221_9, e221_10, e221_13, e221_16, e221_17, e221_20, e221_21, m_isIn, zU_app, zbI_some, zbV_some, Int.reduceToNat, Int.reduceLE, Int.reduceLT, Int.reduceEq, Nat.reduceEqDiff, and_self, and_true, true_and, and_false, false_and, if_true, if_false, ne_eq, not_true_eq_false, not_false_eq_true, reduceCtorEq]
  by_cases h1 : 1 ≤ a ∧ a ≤ b
  · rw [zb_t h1, if_neg (by decide)]
    by_cases h2 : 9999 < b
    · rw [if_pos h2, zb_f (by omega)]; simp
    · rw [if_neg h2, zb_t (by omega)]; simp
  · rw [zb_f h1, if_pos rfl, zb_f (by omega)]; simp
def plA (q : Int × Int × Int × Int) (what : Int) : Int := if what = 0 then q.1 else if what = 1 then q.2.1 else q.2.2.1
theorem m_plainL {w : Nat → Int} (hR : RuOk w) (d : Nat) (a x : Int) (b : Nat) (hb : b < 10000) (g : zG) (hw : g 46 0 = w) : ∀ (k v : Nat) (n l bg r : Int) (u : Option zV), v + k = b + 1 → 0 < v → (0 ≤ n ∧ n ≤ v) → (0 ≤ r ∧ r ≤ v) → Ev (d + 2) 220 34 [some (.inr (12, 0)), some (.inl a), some (.inl (b : Int)), some (.inl x), some (.inl n), some (.inl l), some (.inl bg), some (.inl r), some (.inl (v : Int)), u] [] g = some (some (.inl (plA (plW w k v (n, l, bg, r)) x)), g) := by
  intro k
  induction k with
  | zero =>
    intro v n l bg r u h h0 hn hr
    rw [e220_34]
    simp only [e220_0, e220_1, e220_2, e220_5, e220_8, e220_9, e220_10, e220_11, e220_14, e220_17, e220_18, e220_19, e220_20, e220_22, e220_23, e220_25, e220_26, e220_28, e220_29, e220_31, e220_32, e220_36, e220_37, e220_40, e220_41, e220_43, e220_46, e220_49, e220_50, e220_53, e220_54, e220_56, e220_58, e220_60, e220_63, e220_64, e220_67, e220_68, e220_69, e220_71, e220_73, e220_76, e220_77, e220_80, e220_82, e220_83, e220_84, e220_86, e220_88, e220_90, e220_93, e220_96, e220_98, e220_100, e220_102, e220_104, e220_105, e220_106, e220_107, e220_109, e220_112, e220_115, e220_116, e220_119, e220_121, e220_124, e220_125, e220_126, e220_129, e220_131, e220_134, e220_136]
    rw [if_pos (by omega)]
    unfold plA plW
    by_cases q0 : x = 0
    · rw [if_neg (fun z => z q0), if_pos q0]
    · rw [if_pos q0, if_neg q0]
      by_cases q1 : x = 1
      · rw [if_neg (fun z => z q1), if_pos q1]
      · rw [if_pos q1, if_neg q1]
  | succ k ih =>
    intro v n l bg r u h h0 hn hr
    have n1 : (v : Int) + 1 = ((v + 1 : Nat) : Int) := by omega
    rw [e220_34]
    simp only [e220_0, e220_1, e220_2, e220_5, e220_8, e220_9, e220_10, e220_11, e220_14, e220_17, e220_18, e220_19, e220_20, e220_22, e220_23, e220_25, e220_26, e220_28, e220_29, e220_31, e220_32, e220_36, e220_37, e220_40, e220_41, e220_43, e220_46, e220_49, e220_50, e220_53, e220_54, e220_56, e220_58, e220_60, e220_63, e220_64, e220_67, e220_68, e220_69, e220_71, e220_73, e220_76, e220_77, e220_80, e220_82, e220_83, e220_84, e220_86, e220_88, e220_90, e220_93, e220_96, e220_98, e220_100, e220_102, e220_104, e220_105, e220_106, e220_107, e220_109, e220_112, e220_115, e220_116, e220_119, e220_121, e220_124, e220_125, e220_126, e220_129, e220_131, e220_134, e220_136, m_rules' hR _ v g hw h0 (show v < 10000 by omega), zU_app, zbI_some, zbV_some, Int.reduceToNat, Int.reduceLE, Int.reduceLT, Int.reduceEq, Nat.reduceEqDiff, and_self, and_true, true_and, and_false, false_and, if_true, if_false, ne_eq, not_true_eq_false, not_false_eq_true, reduceCtorEq]
    rw [if_neg (by omega)]
    rw [plW]
    by_cases hm : maW w v = 0
    · simp only [hm, if_true]
      rw [if_neg (by decide), zwr_id (x := n + 1) (by omega) (by omega), zwr_id (x := (v : Int) + 1) (by omega) (by omega)]
      by_cases hl : l < 0
      · rw [if_pos hl, if_pos hl, zwr_id (x := (v : Int) - 0) (by omega) (by omega), zwr_id (x := (v : Int) - 0 + 1) (by omega) (by omega), n1]
        exact ih (v + 1) _ _ _ _ _ (by omega) (by omega) (by omega) (by omega)
      · rw [if_neg hl, if_neg hl, n1]
        exact ih (v + 1) _ _ _ _ _ (by omega) (by omega) (by omega) (by omega)
    · simp only [hm, if_false]
      rw [if_pos (by omega), zwr_id (x := n + 0) (by omega) (by omega), Int.add_zero, zwr_id (x := r + 1) (by omega) (by omega), zwr_id (x := (v : Int) + 1) (by omega) (by omega)]
      by_cases hl : l < r + 1
      · rw [if_pos hl, if_pos hl, zwr_id (x := (v : Int) - (r + 1)) (by omega) (by omega), zwr_id (x := (v : Int) - (r + 1) + 1) (by omega) (by omega), n1]
        exact ih (v + 1) _ _ _ _ _ (by omega) (by omega) (by omega) (by omega)
      · rw [if_neg hl, if_neg hl, n1]
        exact ih (v + 1) _ _ _ _ _ (by omega) (by omega) (by omega) (by omega)
def aPlain (w : Nat → Int) (a b x : Int) : Int := if (1 ≤ a ∧ a ≤ b ∧ b ≤ 9999) ∧ (0 ≤ x ∧ x ≤ 2) then plA (plW w (b - a + 1).toNat a.toNat (0, 0, -1, 0)) x else -1
theorem m_plain {w : Nat → Int} (hR : RuOk w) (d : Nat) (a b x : Int) (g : zG) (hw : g 46 0 = w) : EvM (d + 2) 220 [.inr (12, 0), .inl a, .inl b, .inl x] g = some (some (.inl (aPlain w a b x)), g) := by
  unfold aPlain
  rw [en220]
  simp only [e220_0, e220_1, e220_2, e220_5, e220_8, e220_9, e220_10, e220_11, e220_14, e220_17, e220_18, e220_19, e220_20, e220_22, e220_23, e220_25, e220_26, e220_28, e220_29, e220_31, e220_32, e220_36, e220_37, e220_40, e220_41, e220_43, e220_46, e220_49, e220_50, e220_53, e220_54, e220_56, e220_58, e220_60, e220_63, e220_64, e220_67, e220_68, e220_69, e220_71, e220_73, e220_76, e220_77, e220_80, e220_82, e220_83, e220_84, e220_86, e220_88, e220_90, e220_93, e220_96, e220_98, e220_100, e220_102, e220_104, e220_105, e220_106, e220_107, e220_109, e220_112, e220_115, e220_116, e220_119, e220_121, e220_124, e220_125, e220_126, e220_129, e220_131, e220_134, e220_136, m_isSpan, m_isIn, zU_app, zbI_some, zbV_some, Int.reduceToNat, Int.reduceLE, Int.reduceLT, Int.reduceEq, Nat.reduceEqDiff, and_self, and_true, true_and, and_false, false_and, if_true, if_false, ne_eq, not_true_eq_false, not_false_eq_true, reduceCtorEq]
  by_cases h1 : 1 ≤ a ∧ a ≤ b ∧ b ≤ 9999
  · rw [zb_t h1, if_neg (by decide)]
    by_cases h2 : 0 ≤ x ∧ x ≤ 2
    · rw [zb_t h2, if_pos (by decide), if_pos ⟨h1, h2⟩]
      have := m_plainL hR d a x b.toNat (by omega) g hw (b - a + 1).toNat a.toNat 0 0 (-1) 0 none (by omega) (by omega) (by omega) (by omega)
      rw [show ((b.toNat : Nat) : Int) = b by omega, show ((a.toNat : Nat) : Int) = a by omega] at this
      exact this
    · rw [zb_f h2, if_neg (fun z => z rfl), if_neg (fun q => h2 q.2)]
  · rw [zb_f h1, if_pos rfl, if_neg (fun q => h1 q.1)]
def aHas (w : Nat → Int) (x : Int) : Int := if 1 ≤ x ∧ x ≤ 9999 then (maW w x.toNat : Int) else -1
theorem m_has {w : Nat → Int} (hR : RuOk w) (d : Nat) (x : Int) (g : zG) (hw : g 46 0 = w) : EvM (d + 2) 191 [.inr (12, 0), .inl x] g = some (some (.inl (aHas w x)), g) := by
  unfold aHas
  rw [en191]
  simp only [e191_0, e191_1, e191_2, e191_5, e191_8, e191_11, e191_12, e191_13, e191_16, e191_19, e191_20, m_isIn, zU_app, zbI_some, zbV_some, Int.reduceToNat, Int.reduceLE, Int.reduceLT, Int.reduceEq, Nat.reduceEqDiff, and_self, and_true, true_and, and_false, false_and, if_true, if_false, ne_eq, not_true_eq_false, not_false_eq_true, reduceCtorEq]
  by_cases h : 1 ≤ x ∧ x ≤ 9999
  · have := m_rules' hR d x.toNat g hw (by omega) (by omega)
    rw [show ((x.toNat : Nat) : Int) = x by omega] at this
    rw [zb_t h, if_neg (by decide), if_pos h, this, zbI_some]
  · rw [zb_f h, if_pos rfl, if_neg h]
def aTold (w : Nat → Int) (r x : Int) : Int := if (0 ≤ r ∧ r < w 18) ∧ (0 ≤ x ∧ x ≤ 3) then w (40 + 4 * r.toNat + x.toNat) else -1
theorem m_told {w : Nat → Int} (hR : RuOk w) (d : Nat) (r x : Int) (g : zG) (hw : g 46 0 = w) : EvM (d + 2) 189 [.inr (12, 0), .inl r, .inl x] g = some (some (.inl (aTold w r x)), g) := by
  have hi := m_isRule d r g (by rw [hw]; have := hR.1; have := hR.2.1; omega)
  rw [hw] at hi
  unfold aTold
  rw [en189]
  simp only [e189_0, e189_1, e189_2, e189_5, e189_8, e189_9, e189_10, e189_11, e189_14, e189_17, e189_18, e189_19, e189_20, e189_23, e189_26, e189_27, m_isIn, hi, zU_app, zbI_some, zbV_some, Int.reduceToNat, Int.reduceLE, Int.reduceLT, Int.reduceEq, Nat.reduceEqDiff, and_self, and_true, true_and, and_false, false_and, if_true, if_false, ne_eq, not_true_eq_false, not_false_eq_true, reduceCtorEq]
  by_cases h1 : 0 ≤ r ∧ r < w 18
  · rw [zb_t h1, if_neg (by decide)]
    by_cases h2 : 0 ≤ x ∧ x ≤ 3
    · have := m_own (d + 1) r.toNat x.toNat g (by have := hR.2.1; omega)
      rw [show ((r.toNat : Nat) : Int) = r by omega, show ((x.toNat : Nat) : Int) = x by omega, hw] at this
      rw [zb_t h2, if_neg (by decide), this, zbI_some, if_pos ⟨h1, h2⟩]
    · rw [zb_f h2, if_pos rfl, if_neg (fun q => h2 q.2)]
  · rw [zb_f h1, if_pos rfl, if_neg (fun q => h1 q.1)]
def aBook (w : Nat → Int) (i x : Int) : Int := if (0 ≤ i ∧ i < w 6) ∧ (0 ≤ x ∧ x ≤ 3) then w (80 + 4 * i.toNat + x.toNat) else -1
theorem m_book (d : Nat) (i x : Int) (g : zG) (h6 : 0 ≤ g 46 0 6 ∧ g 46 0 6 ≤ 100) : EvM (d + 1) 194 [.inr (12, 0), .inl i, .inl x] g = some (some (.inl (aBook (g 46 0) i x)), g) := by
  unfold aBook
  rw [en194]
  simp only [e194_0, e194_1, e194_2, e194_3, e194_6, e194_8, e194_9, e194_10, e194_11, e194_14, e194_17, e194_18, e194_19, e194_20, e194_23, e194_26, e194_27, e194_30, e194_32, e194_33, e194_34, e194_35, e194_36, e194_37, e194_38, e194_39, e194_42, e194_43, m_isIn, zU_app, zbI_some, zbV_some, Int.reduceToNat, Int.reduceLE, Int.reduceLT, Int.reduceEq, Nat.reduceEqDiff, and_self, and_true, true_and, and_false, false_and, if_true, if_false, ne_eq, not_true_eq_false, not_false_eq_true, reduceCtorEq]
  rw [zwr_id (x := g 46 0 6 - 1) (by omega) (by omega)]
  by_cases h1 : 0 ≤ i ∧ i < g 46 0 6
  · rw [zb_t (p := 0 ≤ i ∧ i ≤ g 46 0 6 - 1) (by omega), if_neg (by decide)]
    by_cases h2 : 0 ≤ x ∧ x ≤ 3
    · rw [zb_t h2, if_neg (by decide), zwr_id (x := 4 * i) (by omega) (by omega), zwr_id (x := 80 + 4 * i) (by omega) (by omega), zwr_id (x := 80 + 4 * i + x) (by omega) (by omega), if_pos (by omega), if_pos ⟨h1, h2⟩, show (80 + 4 * i + x).toNat = 80 + 4 * i.toNat + x.toNat by omega]
    · rw [zb_f h2, if_pos rfl, if_neg (fun q => h2 q.2)]
  · rw [zb_f (p := 0 ≤ i ∧ i ≤ g 46 0 6 - 1) (by omega), if_pos rfl, if_neg (fun q => h1 q.1)]
def aLook (w : Nat → Int) (bm x : Int) : Int := if x = 0 then w 17 else if x = 1 then w 18 else if x = 2 then w 0 else if x = 3 then w 1 else if x = 4 then w 2 else if x = 5 then w 3 else if x = 6 then w 19 else if x = 7 then w 4 else if x = 8 then w 5 else if x = 9 then w 6 else if x = 10 then w 7 else if x = 11 then w 485 else if x = 12 then bm else -2
theorem m_look (d : Nat) (x : Int) (g : zG) : EvM d 254 [.inr (12, 0), .inl x] g = some (some (.inl (aLook (g 46 0) (g 12 0 3) x)), g) := by
  rw [en254, e254_0]
  by_cases h : x < 0 ∨ 12 < x
  · rw [e254_1_def _ _ _ _ h]
    simp only [e254_0, e254_68, e254_69, e254_72, e254_74, e254_75, e254_76, e254_77, e254_80, e254_82, e254_83, e254_84, e254_85, e254_88, e254_89, e254_90, e254_91, e254_92, e254_95, e254_96, e254_97, e254_98, e254_99, e254_102, e254_103, e254_104, e254_105, e254_106, e254_109, e254_110, e254_111, e254_112, e254_113, e254_116, e254_118, e254_119, e254_120, e254_121, e254_124, e254_125, e254_126, e254_127, e254_128, e254_131, e254_132, e254_133, e254_134, e254_135, e254_138, e254_140, e254_141, e254_142, e254_143, e254_146, e254_148, e254_149, e254_150, e254_151, e254_154, e254_157, e254_158, e254_159, e254_160, e254_163, e254_164, e254_166]
    unfold aLook
    simp (disch := omega) only [if_neg]
  · rcases (show x = 0 ∨ x = 1 ∨ x = 2 ∨ x = 3 ∨ x = 4 ∨ x = 5 ∨ x = 6 ∨ x = 7 ∨ x = 8 ∨ x = 9 ∨ x = 10 ∨ x = 11 ∨ x = 12 by omega) with rfl | rfl | rfl | rfl | rfl | rfl | rfl | rfl | rfl | rfl | rfl | rfl | rfl
    · rw [e254_1_c0]; simp only [e254_0, e254_68, e254_69, e254_72, e254_74, e254_75, e254_76, e254_77, e254_80, e254_82, e254_83, e254_84, e254_85, e254_88, e254_89, e254_90, e254_91, e254_92, e254_95, e254_96, e254_97, e254_98, e254_99, e254_102, e254_103, e254_104, e254_105, e254_106, e254_109, e254_110, e254_111, e254_112, e254_113, e254_116, e254_118, e254_119, e254_120, e254_121, e254_124, e254_125, e254_126, e254_127, e254_128, e254_131, e254_132, e254_133, e254_134, e254_135, e254_138, e254_140, e254_141, e254_142, e254_143, e254_146, e254_148, e254_149, e254_150, e254_151, e254_154, e254_157, e254_158, e254_159, e254_160, e254_163, e254_164, e254_166, zU_app, zbI_some, zbV_some, Int.reduceToNat, Int.reduceLE, Int.reduceLT, Int.reduceEq, Nat.reduceEqDiff, and_self, and_true, true_and, and_false, false_and, if_true, if_false, ne_eq, not_true_eq_false, not_false_eq_true, reduceCtorEq]; rfl
    · rw [e254_1_c1]; simp only [e254_0, e254_68, e254_69, e254_72, e254_74, e254_75, e254_76, e254_77, e254_80, e254_82, e254_83, e254_84, e254_85, e254_88, e254_89, e254_90, e254_91, e254_92, e254_95, e254_96, e254_97, e254_98, e254_99, e254_102, e254_103, e254_104, e254_105, e254_106, e254_109, e254_110, e254_111, e254_112, e254_113, e254_116, e254_118, e254_119, e254_120, e254_121, e254_124, e254_125, e254_126, e254_127, e254_128, e254_131, e254_132, e254_133, e254_134, e254_135, e254_138, e254_140, e254_141, e254_142, e254_143, e254_146, e254_148, e254_149, e254_150, e254_151, e254_154, e254_157, e254_158, e254_159, e254_160, e254_163, e254_164, e254_166, zU_app, zbI_some, zbV_some, Int.reduceToNat, Int.reduceLE, Int.reduceLT, Int.reduceEq, Nat.reduceEqDiff, and_self, and_true, true_and, and_false, false_and, if_true, if_false, ne_eq, not_true_eq_false, not_false_eq_true, reduceCtorEq]; rfl
    · rw [e254_1_c2]; simp only [e254_0, e254_68, e254_69, e254_72, e254_74, e254_75, e254_76, e254_77, e254_80, e254_82, e254_83, e254_84, e254_85, e254_88, e254_89, e254_90, e254_91, e254_92, e254_95, e254_96, e254_97, e254_98, e254_99, e254_102, e254_103, e254_104, e254_105, e254_106, e254_109, e254_110, e254_111, e254_112, e254_113, e254_116, e254_118, e254_119, e254_120, e254_121, e254_124, e254_125, e254_126, e254_127, e254_128, e254_131, e254_132, e254_133, e254_134, e254_135, e254_138, e254_140, e254_141, e254_142, e254_143, e254_146, e254_148, e254_149, e254_150, e254_151, e254_154, e254_157, e254_158, e254_159, e254_160, e254_163, e254_164, e254_166, zU_app, zbI_some, zbV_some, Int.reduceToNat, Int.reduceLE, Int.reduceLT, Int.reduceEq, Nat.reduceEqDiff, and_self, and_true, true_and, and_false, false_and, if_true, if_false, ne_eq, not_true_eq_false, not_false_eq_true, reduceCtorEq]; rfl
    · rw [e254_1_c3]; simp only [e254_0, e254_68, e254_69, e254_72, e254_74, e254_75, e254_76, e254_77, e254_80, e254_82, e254_83, e254_84, e254_85, e254_88, e254_89, e254_90, e254_91, e254_92, e254_95, e254_96, e254_97, e254_98, e254_99, e254_102, e254_103, e254_104, e254_105, e254_106, e254_109, e254_110, e254_111, e254_112, e254_113, e254_116, e254_118, e254_119, e254_120, e254_121, e254_124, e254_125, e254_126, e254_127, e254_128, e254_131, e254_132, e254_133, e254_134, e254_135, e254_138, e254_140, e254_141, e254_142, e254_143, e254_146, e254_148, e254_149, e254_150, e254_151, e254_154, e254_157, e254_158, e254_159, e254_160, e254_163, e254_164, e254_166, zU_app, zbI_some, zbV_some, Int.reduceToNat, Int.reduceLE, Int.reduceLT, Int.reduceEq, Nat.reduceEqDiff, and_self, and_true, true_and, and_false, false_and, if_true, if_false, ne_eq, not_true_eq_false, not_false_eq_true, reduceCtorEq]; rfl
    · rw [e254_1_c4]; simp only [e254_0, e254_68, e254_69, e254_72, e254_74, e254_75, e254_76, e254_77, e254_80, e254_82, e254_83, e254_84, e254_85, e254_88, e254_89, e254_90, e254_91, e254_92, e254_95, e254_96, e254_97, e254_98, e254_99, e254_102, e254_103, e254_104, e254_105, e254_106, e254_109, e254_110, e254_111, e254_112, e254_113, e254_116, e254_118, e254_119, e254_120, e254_121, e254_124, e254_125, e254_126, e254_127, e254_128, e254_131, e254_132, e254_133, e254_134, e254_135, e254_138, e254_140, e254_141, e254_142, e254_143, e254_146, e254_148, e254_149, e254_150, e254_151, e254_154, e254_157, e254_158, e254_159, e254_160, e254_163, e254_164, e254_166, zU_app, zbI_some, zbV_some, Int.reduceToNat, Int.reduceLE, Int.reduceLT, Int.reduceEq, Nat.reduceEqDiff, and_self, and_true, true_and, and_false, false_and, if_true, if_false, ne_eq, not_true_eq_false, not_false_eq_true, reduceCtorEq]; rfl
    · rw [e254_1_c5]; simp only [e254_0, e254_68, e254_69, e254_72, e254_74, e254_75, e254_76, e254_77, e254_80, e254_82, e254_83, e254_84, e254_85, e254_88, e254_89, e254_90, e254_91, e254_92, e254_95, e254_96, e254_97, e254_98, e254_99, e254_102, e254_103, e254_104, e254_105, e254_106, e254_109, e254_110, e254_111, e254_112, e254_113, e254_116, e254_118, e254_119, e254_120, e254_121, e254_124, e254_125, e254_126, e254_127, e254_128, e254_131, e254_132, e254_133, e254_134, e254_135, e254_138, e254_140, e254_141, e254_142, e254_143, e254_146, e254_148, e254_149, e254_150, e254_151, e254_154, e254_157, e254_158, e254_159, e254_160, e254_163, e254_164, e254_166, zU_app, zbI_some, zbV_some, Int.reduceToNat, Int.reduceLE, Int.reduceLT, Int.reduceEq, Nat.reduceEqDiff, and_self, and_true, true_and, and_false, false_and, if_true, if_false, ne_eq, not_true_eq_false, not_false_eq_true, reduceCtorEq]; rfl
    · rw [e254_1_c6]; simp only [e254_0, e254_68, e254_69, e254_72, e254_74, e254_75, e254_76, e254_77, e254_80, e254_82, e254_83, e254_84, e254_85, e254_88, e254_89, e254_90, e254_91, e254_92, e254_95, e254_96, e254_97, e254_98, e254_99, e254_102, e254_103, e254_104, e254_105, e254_106, e254_109, e254_110, e254_111, e254_112, e254_113, e254_116, e254_118, e254_119, e254_120, e254_121, e254_124, e254_125, e254_126, e254_127, e254_128, e254_131, e254_132, e254_133, e254_134, e254_135, e254_138, e254_140, e254_141, e254_142, e254_143, e254_146, e254_148, e254_149, e254_150, e254_151, e254_154, e254_157, e254_158, e254_159, e254_160, e254_163, e254_164, e254_166, zU_app, zbI_some, zbV_some, Int.reduceToNat, Int.reduceLE, Int.reduceLT, Int.reduceEq, Nat.reduceEqDiff, and_self, and_true, true_and, and_false, false_and, if_true, if_false, ne_eq, not_true_eq_false, not_false_eq_true, reduceCtorEq]; rfl
    · rw [e254_1_c7]; simp only [e254_0, e254_68, e254_69, e254_72, e254_74, e254_75, e254_76, e254_77, e254_80, e254_82, e254_83, e254_84, e254_85, e254_88, e254_89, e254_90, e254_91, e254_92, e254_95, e254_96, e254_97, e254_98, e254_99, e254_102, e254_103, e254_104, e254_105, e254_106, e254_109, e254_110, e254_111, e254_112, e254_113, e254_116, e254_118, e254_119, e254_120, e254_121, e254_124, e254_125, e254_126, e254_127, e254_128, e254_131, e254_132, e254_133, e254_134, e254_135, e254_138, e254_140, e254_141, e254_142, e254_143, e254_146, e254_148, e254_149, e254_150, e254_151, e254_154, e254_157, e254_158, e254_159, e254_160, e254_163, e254_164, e254_166, zU_app, zbI_some, zbV_some, Int.reduceToNat, Int.reduceLE, Int.reduceLT, Int.reduceEq, Nat.reduceEqDiff, and_self, and_true, true_and, and_false, false_and, if_true, if_false, ne_eq, not_true_eq_false, not_false_eq_true, reduceCtorEq]; rfl
    · rw [e254_1_c8]; simp only [e254_0, e254_68, e254_69, e254_72, e254_74, e254_75, e254_76, e254_77, e254_80, e254_82, e254_83, e254_84, e254_85, e254_88, e254_89, e254_90, e254_91, e254_92, e254_95, e254_96, e254_97, e254_98, e254_99, e254_102, e254_103, e254_104, e254_105, e254_106, e254_109, e254_110, e254_111, e254_112, e254_113, e254_116, e254_118, e254_119, e254_120, e254_121, e254_124, e254_125, e254_126, e254_127, e254_128, e254_131, e254_132, e254_133, e254_134, e254_135, e254_138, e254_140, e254_141, e254_142, e254_143, e254_146, e254_148, e254_149, e254_150, e254_151, e254_154, e254_157, e254_158, e254_159, e254_160, e254_163, e254_164, e254_166, zU_app, zbI_some, zbV_some, Int.reduceToNat, Int.reduceLE, Int.reduceLT, Int.reduceEq, Nat.reduceEqDiff, and_self, and_true, true_and, and_false, false_and, if_true, if_false, ne_eq, not_true_eq_false, not_false_eq_true, reduceCtorEq]; rfl
    · rw [e254_1_c9]; simp only [e254_0, e254_68, e254_69, e254_72, e254_74, e254_75, e254_76, e254_77, e254_80, e254_82, e254_83, e254_84, e254_85, e254_88, e254_89, e254_90, e254_91, e254_92, e254_95, e254_96, e254_97, e254_98, e254_99, e254_102, e254_103, e254_104, e254_105, e254_106, e254_109, e254_110, e254_111, e254_112, e254_113, e254_116, e254_118, e254_119, e254_120, e254_121, e254_124, e254_125, e254_126, e254_127, e254_128, e254_131, e254_132, e254_133, e254_134, e254_135, e254_138, e254_140, e254_141, e254_142, e254_143, e254_146, e254_148, e254_149, e254_150, e254_151, e254_154, e254_157, e254_158, e254_159, e254_160, e254_163, e254_164, e254_166, zU_app, zbI_some, zbV_some, Int.reduceToNat, Int.reduceLE, Int.reduceLT, Int.reduceEq, Nat.reduceEqDiff, and_self, and_true, true_and, and_false, false_and, if_true, if_false, ne_eq, not_true_eq_false, not_false_eq_true, reduceCtorEq]; rfl
    · rw [e254_1_c10]; simp only [e254_0, e254_68, e254_69, e254_72, e254_74, e254_75, e254_76, e254_77, e254_80, e254_82, e254_83, e254_84, e254_85, e254_88, e254_89, e254_90, e254_91, e254_92, e254_95, e254_96, e254_97, e254_98, e254_99, e254_102, e254_103, e254_104, e254_105, e254_106, e254_109, e254_110, e254_111, e254_112, e254_113, e254_116, e254_118, e254_119, e254_120, e254_121, e254_124, e254_125, e254_126, e254_127, e254_128, e254_131, e254_132, e254_133, e254_134, e254_135, e254_138, e254_140, e254_141, e254_142, e254_143, e254_146, e254_148, e254_149, e254_150, e254_151, e254_154, e254_157, e254_158, e254_159, e254_160, e254_163, e254_164, e254_166, zU_app, zbI_some, zbV_some, Int.reduceToNat, Int.reduceLE, Int.reduceLT, Int.reduceEq, Nat.reduceEqDiff, and_self, and_true, true_and, and_false, false_and, if_true, if_false, ne_eq, not_true_eq_false, not_false_eq_true, reduceCtorEq]; rfl
    · rw [e254_1_c11]; simp only [e254_0, e254_68, e254_69, e254_72, e254_74, e254_75, e254_76, e254_77, e254_80, e254_82, e254_83, e254_84, e254_85, e254_88, e254_89, e254_90, e254_91, e254_92, e254_95, e254_96, e254_97, e254_98, e254_99, e254_102, e254_103, e254_104, e254_105, e254_106, e254_109, e254_110, e254_111, e254_112, e254_113, e254_116, e254_118, e254_119, e254_120, e254_121, e254_124, e254_125, e254_126, e254_127, e254_128, e254_131, e254_132, e254_133, e254_134, e254_135, e254_138, e254_140, e254_141, e254_142, e254_143, e254_146, e254_148, e254_149, e254_150, e254_151, e254_154, e254_157, e254_158, e254_159, e254_160, e254_163, e254_164, e254_166, zU_app, zbI_some, zbV_some, Int.reduceToNat, Int.reduceLE, Int.reduceLT, Int.reduceEq, Nat.reduceEqDiff, and_self, and_true, true_and, and_false, false_and, if_true, if_false, ne_eq, not_true_eq_false, not_false_eq_true, reduceCtorEq]; rfl
    · rw [e254_1_c12]; simp only [e254_0, e254_68, e254_69, e254_72, e254_74, e254_75, e254_76, e254_77, e254_80, e254_82, e254_83, e254_84, e254_85, e254_88, e254_89, e254_90, e254_91, e254_92, e254_95, e254_96, e254_97, e254_98, e254_99, e254_102, e254_103, e254_104, e254_105, e254_106, e254_109, e254_110, e254_111, e254_112, e254_113, e254_116, e254_118, e254_119, e254_120, e254_121, e254_124, e254_125, e254_126, e254_127, e254_128, e254_131, e254_132, e254_133, e254_134, e254_135, e254_138, e254_140, e254_141, e254_142, e254_143, e254_146, e254_148, e254_149, e254_150, e254_151, e254_154, e254_157, e254_158, e254_159, e254_160, e254_163, e254_164, e254_166, zU_app, zbI_some, zbV_some, Int.reduceToNat, Int.reduceLE, Int.reduceLT, Int.reduceEq, Nat.reduceEqDiff, and_self, and_true, true_and, and_false, false_and, if_true, if_false, ne_eq, not_true_eq_false, not_false_eq_true, reduceCtorEq]; rfl
