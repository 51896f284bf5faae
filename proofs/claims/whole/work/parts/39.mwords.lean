/-! the model: whose, hardest, words, sit -/
def whW (w : Nat → Int) : Nat → Nat → Int → Int → Nat
  | 0, _, s, _ => whoW w s
  | k + 1, n, s, wy => whW w k (nxN n) (seW w n s wy) (wyW w n wy)
theorem m_whoseL {w : Nat → Int} (hR : RuOk w) (hP : PeOk w) (d v : Nat) (hv : v < 10000) : ∀ (k n : Nat) (s wy t : Int) (g : zG), n + k = v → CuAt g w n s wy t → CuOk w n s wy → ∃ g', Ev (d + 3) 198 14 [some (.inr (12, 0)), some (.inl (v : Int))] [] g = some (some (.inl (whW w k n s wy : Int)), g') ∧ Fr sCur g g' := by
  intro k
  induction k with
  | zero =>
    intro n s wy t g hk h ho
    refine ⟨g, ?_, Fr.rf⟩
    rw [e198_14]
    simp only [e198_0, e198_1, e198_2, e198_5, e198_8, e198_9, e198_10, e198_11, e198_15, e198_18, e198_19, e198_22, e198_23, e198_26, e198_29, e198_30, e198_31, e198_34, e198_37, h.2.1, h.2.2.1]
    rw [if_pos (by omega), m_whoOn hP _ s g h.1 ho.2.1.1 ho.2.1.2, zbI_some]
    rfl
  | succ k ih =>
    intro n s wy t g hk h ho
    obtain ⟨g2, b1, b2, b3⟩ := m_goes' hR ⟨hP.1, hP.2.1⟩ d n s wy t g h ho
    have hn : nxN n = n + 1 := if_neg (by omega)
    obtain ⟨g3, e1, e2⟩ := ih (nxN n) _ _ _ g2 (by omega) b2 (ho.on hP.1)
    refine ⟨g3, ?_, b3.tr e2⟩
    rw [e198_14]
    simp only [e198_0, e198_1, e198_2, e198_5, e198_8, e198_9, e198_10, e198_11, e198_15, e198_18, e198_19, e198_22, e198_23, e198_26, e198_29, e198_30, e198_31, e198_34, e198_37, h.2.1]
    rw [if_neg (by omega), b1, zbV_some]
    exact e1
def aWho (w : Nat → Int) (x : Int) : Int := if 0 < w 17 ∧ w 0 ≤ x ∧ x ≤ 9999 then (whW w (x - w 0).toNat (w 0).toNat (w 1) (w 2) : Int) else -1
theorem m_whose {w : Nat → Int} (hR : RuOk w) (hP : 0 < w 17 → PeOk w) (hN : NoOk w) (d : Nat) (x : Int) (g : zG) (hw : g 46 0 = w) : ∃ g', EvM (d + 4) 198 [.inr (12, 0), .inl x] g = some (some (.inl (aWho w x)), g') ∧ Fr sCur g g' := by
  have hcc := m_canCome (d + 2) x g
  rw [hw] at hcc
  unfold aWho
  by_cases h : 0 < w 17 ∧ w 0 ≤ x ∧ x ≤ 9999
  · rw [zb_t h] at hcc
    obtain ⟨g1, a1, a2, a3⟩ := m_begin' hR d g hw hN.1
    have ho : CuOk w (w 0).toNat (w 1) (w 2) := ⟨by have := hN.1; omega, ⟨hN.2.1.1, hN.2.1.2 h.1⟩, hN.2.2.1⟩
    obtain ⟨g2, b1, b2⟩ := m_whoseL hR (hP h.1) (d + 1) x.toNat (by omega) (x.toNat - (w 0).toNat) (w 0).toNat _ _ _ g1 (by have := hN.1; omega) a2 ho
    rw [show ((x.toNat : Nat) : Int) = x by have := hN.1; omega] at b1
    refine ⟨g2, ?_, a3.tr b2⟩
    rw [en198]
    simp only [e198_0, e198_1, e198_2, e198_5, e198_8, e198_9, e198_10, e198_11, e198_15, e198_18, e198_19, e198_22, e198_23, e198_26, e198_29, e198_30, e198_31, e198_34, e198_37, hcc, zU_app, zbI_some, zbV_some, Int.reduceToNat, Int.reduceLE, Int.reduceLT, Int.reduceEq, Nat.reduceEqDiff, and_self, and_true, true_and, and_false, false_and, if_true, if_false, ne_eq, not_true_eq_false, not_false_eq_true, reduceCtorEq, a1]
    rw [if_pos h, show (x - w 0).toNat = x.toNat - (w 0).toNat by have := hN.1; omega]
    exact b1
  · rw [zb_f h] at hcc
    refine ⟨g, ?_, Fr.rf⟩
    rw [en198]
    simp only [e198_0, e198_1, e198_2, e198_5, e198_8, e198_9, e198_10, e198_11, e198_15, e198_18, e198_19, e198_22, e198_23, e198_26, e198_29, e198_30, e198_31, e198_34, e198_37, hcc, zU_app, zbI_some, zbV_some, Int.reduceToNat, Int.reduceLE, Int.reduceLT, Int.reduceEq, Nat.reduceEqDiff, and_self, and_true, true_and, and_false, false_and, if_true, if_false, ne_eq, not_true_eq_false, not_false_eq_true, reduceCtorEq]
    rw [if_neg h]
/-- the hardest so far, and on -/
def hdW (w : Nat → Int) : Nat → Nat → Int → Int → Nat → Int → Nat
  | 0, _, _, _, b, _ => b
  | k + 1, n, s, wy, b, m => if m < osW w (nxN n) (seW w n s wy) (tuW w n) then hdW w k (nxN n) (seW w n s wy) (wyW w n wy) (nxN n) (osW w (nxN n) (seW w n s wy) (tuW w n)) else hdW w k (nxN n) (seW w n s wy) (wyW w n wy) b m
theorem m_hardL {w : Nat → Int} (hR : RuOk w) (hL : LwOk w) (hP : PeOk w) (d v : Nat) (hv : v < 10000) : ∀ (k n : Nat) (s wy t : Int) (b : Nat) (m : Int) (u : Option zV) (g : zG), n + k = v → CuAt g w n s wy t → CuOk w n s wy → ∃ g', Ev (d + 3) 205 32 [some (.inr (12, 0)), some (.inl (v : Int)), some (.inl (b : Int)), some (.inl m), u] [] g = some (some (.inl (hdW w k n s wy b m : Int)), g') ∧ Fr sCur g g' := by
  intro k
  induction k with
  | zero =>
    intro n s wy t b m u g hk h ho
    refine ⟨g, ?_, Fr.rf⟩
    rw [e205_32]
    simp only [e205_0, e205_1, e205_2, e205_5, e205_8, e205_9, e205_10, e205_11, e205_14, e205_15, e205_18, e205_19, e205_20, e205_21, e205_22, e205_25, e205_28, e205_31, e205_33, e205_36, e205_37, e205_40, e205_41, e205_44, e205_45, e205_46, e205_47, e205_50, e205_53, e205_56, e205_58, e205_60, e205_61, e205_64, e205_67, e205_69, e205_70, e205_71, e205_74, e205_75, e205_78, e205_79, h.2.1]
    rw [if_pos (by omega)]
    rfl
  | succ k ih =>
    intro n s wy t b m u g hk h ho
    obtain ⟨g2, b1, b2, b3⟩ := m_goes' hR ⟨hP.1, hP.2.1⟩ d n s wy t g h ho
    have hn : nxN n = n + 1 := if_neg (by omega)
    have ho2 := ho.on hP.1
    obtain ⟨w1, w2, w3⟩ := whoW_spec hP ho2.2.1.1 ho2.2.1.2
    obtain ⟨g3, a1, a2, a3⟩ := m_odds' hR hL d (whoW w (seW w n s wy)) (nxN n) _ _ _ g2 b2 ho2.1 w2
    rw [e205_32]
    simp only [e205_0, e205_1, e205_2, e205_5, e205_8, e205_9, e205_10, e205_11, e205_14, e205_15, e205_18, e205_19, e205_20, e205_21, e205_22, e205_25, e205_28, e205_31, e205_33, e205_36, e205_37, e205_40, e205_41, e205_44, e205_45, e205_46, e205_47, e205_50, e205_53, e205_56, e205_58, e205_60, e205_61, e205_64, e205_67, e205_69, e205_70, e205_71, e205_74, e205_75, e205_78, e205_79, h.2.1]
    rw [if_neg (by omega), b1, zbV_some, b2.2.2.1, m_whoOn hP _ _ g2 b2.1 ho2.2.1.1 ho2.2.1.2, zbI_some, a1, zbI_some, a2.2.1, hdW]
    by_cases hm : m < osW w (nxN n) (seW w n s wy) (tuW w n)
    · obtain ⟨g4, e1, e2⟩ := ih (nxN n) _ _ _ (nxN n) (osW w (nxN n) (seW w n s wy) (tuW w n)) (some (.inl (osW w (nxN n) (seW w n s wy) (tuW w n)))) g3 (by omega) a2 ho2
      refine ⟨g4, ?_, (b3.tr a3).tr e2⟩
      rw [if_pos hm, if_pos (show m < odW w (whoW w (seW w n s wy)) (nxN n) (tuW w n) from hm)]
      exact e1
    · obtain ⟨g4, e1, e2⟩ := ih (nxN n) _ _ _ b m (some (.inl (osW w (nxN n) (seW w n s wy) (tuW w n)))) g3 (by omega) a2 ho2
      refine ⟨g4, ?_, (b3.tr a3).tr e2⟩
      rw [if_neg hm, if_neg (show ¬ m < odW w (whoW w (seW w n s wy)) (nxN n) (tuW w n) from hm)]
      exact e1
def aHard (w : Nat → Int) (x : Int) : Int := if 0 < w 17 ∧ w 0 ≤ x ∧ x ≤ 9999 then (hdW w (x - w 0).toNat (w 0).toNat (w 1) (w 2) (w 0).toNat (osW w (w 0).toNat (w 1) (w 3)) : Int) else -1
theorem m_hardest {w : Nat → Int} (hR : RuOk w) (hL : LwOk w) (hP : 0 < w 17 → PeOk w) (hN : NoOk w) (d : Nat) (x : Int) (g : zG) (hw : g 46 0 = w) : ∃ g', EvM (d + 4) 205 [.inr (12, 0), .inl x] g = some (some (.inl (aHard w x)), g') ∧ Fr sCur g g' := by
  have hcc := m_canCome (d + 2) x g
  rw [hw] at hcc
  unfold aHard
  by_cases h : 0 < w 17 ∧ w 0 ≤ x ∧ x ≤ 9999
  · rw [zb_t h] at hcc
    obtain ⟨g1, a1, a2, a3⟩ := m_begin' hR d g hw hN.1
    have ho : CuOk w (w 0).toNat (w 1) (w 2) := ⟨by have := hN.1; omega, ⟨hN.2.1.1, hN.2.1.2 h.1⟩, hN.2.2.1⟩
    obtain ⟨w1, w2, w3⟩ := whoW_spec (hP h.1) ho.2.1.1 ho.2.1.2
    obtain ⟨g3, c1, c2, c3⟩ := m_odds' hR hL (d + 1) (whoW w (w 1)) (w 0).toNat _ _ _ g1 a2 ho.1 w2
    obtain ⟨g2, b1, b2⟩ := m_hardL hR hL (hP h.1) (d + 1) x.toNat (by omega) (x.toNat - (w 0).toNat) (w 0).toNat _ _ _ (w 0).toNat (osW w (w 0).toNat (w 1) (w 3)) none g3 (by have := hN.1; omega) c2 ho
    rw [show ((x.toNat : Nat) : Int) = x by have := hN.1; omega] at b1
    refine ⟨g2, ?_, (a3.tr c3).tr b2⟩
    rw [en205]
    simp only [e205_0, e205_1, e205_2, e205_5, e205_8, e205_9, e205_10, e205_11, e205_14, e205_15, e205_18, e205_19, e205_20, e205_21, e205_22, e205_25, e205_28, e205_31, e205_33, e205_36, e205_37, e205_40, e205_41, e205_44, e205_45, e205_46, e205_47, e205_50, e205_53, e205_56, e205_58, e205_60, e205_61, e205_64, e205_67, e205_69, e205_70, e205_71, e205_74, e205_75, e205_78, e205_79, hcc, zU_app, zbI_some, zbV_some, Int.reduceToNat, Int.reduceLE, Int.reduceLT, Int.reduceEq, Nat.reduceEqDiff, and_self, and_true, true_and, and_false, false_and, if_true, if_false, ne_eq, not_true_eq_false, not_false_eq_true, reduceCtorEq, a1]
    rw [if_pos h, a2.2.1, a2.2.2.1, m_whoOn (hP h.1) _ _ g1 a2.1 ho.2.1.1 ho.2.1.2, zbI_some, c1, zbI_some, show (x - w 0).toNat = x.toNat - (w 0).toNat by have := hN.1; omega]
    exact b1
  · rw [zb_f h] at hcc
    refine ⟨g, ?_, Fr.rf⟩
    rw [en205]
    simp only [e205_0, e205_1, e205_2, e205_5, e205_8, e205_9, e205_10, e205_11, e205_14, e205_15, e205_18, e205_19, e205_20, e205_21, e205_22, e205_25, e205_28, e205_31, e205_33, e205_36, e205_37, e205_40, e205_41, e205_44, e205_45, e205_46, e205_47, e205_50, e205_53, e205_56, e205_58, e205_60, e205_61, e205_64, e205_67, e205_69, e205_70, e205_71, e205_74, e205_75, e205_78, e205_79, hcc, zU_app, zbI_some, zbV_some, Int.reduceToNat, Int.reduceLE, Int.reduceLT, Int.reduceEq, Nat.reduceEqDiff, and_self, and_true, true_and, and_false, false_and, if_true, if_false, ne_eq, not_true_eq_false, not_false_eq_true, reduceCtorEq]
    rw [if_neg h]
/-- how many words come to each seat over k numbers -/
def wdW (w : Nat → Int) : Nat → Nat → Int → Int → (Nat → Int) → (Nat → Int)
  | 0, _, _, _, c => c
  | k + 1, n, s, wy, c => wdW w k (nxN n) (seW w n s wy) (wyW w n wy) (fun i => if i = s.toNat then c i + (if maW w n = 0 then 0 else 1) else c i)
def sWds : Nat → Nat → Nat → Prop := fun k j i => sCur k j i ∨ k = 54
theorem m_laysL {w : Nat → Int} (hR : RuOk w) (hP : PeOk w) (d : Nat) (v : Int) (hv : v ≤ 999) : ∀ (k n : Nat) (s wy t : Int) (c : Nat → Int) (g : zG), ((n + k : Nat) : Int) = v + 1 → CuAt g w n s wy t → CuOk w n s wy → (∀ i, i < 8 → g 54 0 i = c i) → (∀ i, 0 ≤ c i ∧ c i + k ≤ 1000) → ∃ g', Ev (d + 3) 212 27 [some (.inr (12, 0)), some (.inl v), some (.inl (n : Int))] [] g = some (none, g') ∧ Fr sWds g g' ∧ ∀ i, i < 8 → g' 54 0 i = wdW w k n s wy c i := by
  intro k
  induction k with
  | zero =>
    intro n s wy t c g hk h ho hc hb
    refine ⟨g, ?_, Fr.rf, hc⟩
    rw [e212_27]
    simp only [e212_0, e212_1, e212_3, e212_5, e212_8, e212_9, e212_12, e212_13, e212_14, e212_15, e212_18, e212_21, e212_22, e212_25, e212_26, e212_28, e212_29, e212_32, e212_33, e212_36, e212_37, e212_40, e212_41, e212_42, e212_43, e212_44, e212_47, e212_50, e212_53, e212_54, e212_57, e212_58, e212_59, e212_60, e212_61, e212_64, e212_67, e212_70]
    rw [if_pos (by omega)]
  | succ k ih =>
    intro n s wy t c g hk h ho hc hb
    have hn : nxN n = n + 1 := if_neg (by omega)
    have h8 := hP.2.1
    have s8 : s.toNat < 8 := by have := ho.2.1; omega
    let x : Int := c s.toNat + (if maW w n = 0 then 0 else 1)
    let g1 := zU g 54 0 s.toNat x
    have h1 : CuAt g1 w n s wy t := h
    obtain ⟨g2, b1, b2, b3⟩ := m_goes' hR ⟨hP.1, hP.2.1⟩ d n s wy t g1 h1 ho
    have hb0 := hb s.toNat
    obtain ⟨g3, e1, e2, e3⟩ := ih (nxN n) (seW w n s wy) (wyW w n wy) _ (fun i => if i = s.toNat then c i + (if maW w n = 0 then 0 else 1) else c i) g2 (by omega) b2 (ho.on hP.1) (by
      intro i hi
      rw [b3 54 0 i (by simp [sCur])]
      show (if _ then _ else _) = _
      by_cases q : i = s.toNat
      · subst q; simp [x]
      · simp [q, hc i hi]) (by
      intro i
      have := hb i
      split <;> (try split) <;> omega)
    refine ⟨g3, ?_, ((Fr.u (S := sWds) (Or.inr rfl)).tr (b3.up (fun _ _ _ q => Or.inl q))).tr e2, e3⟩
    have hxx : ∀ q : Int, q = (if maW w n = 0 then 0 else 1) → zwr (c s.toNat + q) = x := by
      intro q hq
      rw [hq]
      exact zwr_id (by split <;> omega) (by split <;> omega)
    have n1 : (n : Int) + 1 = (nxN n : Int) := by omega
    rw [e212_27]
    simp only [e212_0, e212_1, e212_3, e212_5, e212_8, e212_9, e212_12, e212_13, e212_14, e212_15, e212_18, e212_21, e212_22, e212_25, e212_26, e212_28, e212_29, e212_32, e212_33, e212_36, e212_37, e212_40, e212_41, e212_42, e212_43, e212_44, e212_47, e212_50, e212_53, e212_54, e212_57, e212_58, e212_59, e212_60, e212_61, e212_64, e212_67, e212_70, h.2.1, h.2.2.1, m_rules' hR _ n g h.1 ho.1.1 ho.1.2, zbI_some]
    rw [if_neg (by omega), if_pos (by have := ho.2.1; omega), hc _ s8]
    by_cases hm : maW w n = 0
    · rw [if_neg (by omega), if_pos (by have := ho.2.1; omega), hxx 0 (by rw [if_pos hm]), b1, zbV_some, zwr_id (by omega) (by omega), n1]
      exact e1
    · rw [if_pos (by omega), if_pos (by have := ho.2.1; omega), hxx 1 (by rw [if_neg hm]), b1, zbV_some, zwr_id (by omega) (by omega), n1]
      exact e1
theorem m_lays0 (d : Nat) (v : Int) (g : zG) : ∀ (m i : Nat), i + m = 8 → ∃ g', Ev d 212 2 [some (.inr (12, 0)), some (.inl v), some (.inl (i : Int))] [] g = Ev d 212 21 [some (.inr (12, 0)), some (.inl v), some (.inl 8)] [] g' ∧ (∀ k j s, ¬ (k = 54 ∧ j = 0 ∧ i ≤ s) → g' k j s = g k j s) ∧ ∀ s, i ≤ s → s < 8 → g' 54 0 s = 0 := by
  intro m
  induction m generalizing g with
  | zero =>
    intro i hi
    have : i = 8 := by omega
    subst this
    refine ⟨g, ?_, fun _ _ _ _ => rfl, fun s h1 h2 => by omega⟩
    rw [e212_2]
    simp only [e212_0, e212_1, e212_3, e212_5, e212_8, e212_9, e212_12, e212_13, e212_14, e212_15, e212_18, e212_22, e212_25, e212_26, e212_28, e212_29, e212_32, e212_33, e212_36, e212_37, e212_40, e212_41, e212_42, e212_43, e212_44, e212_47, e212_50, e212_53, e212_54, e212_57, e212_58, e212_59, e212_60, e212_61, e212_64, e212_67, e212_70]
    rfl
  | succ m ih =>
    intro i hi
    obtain ⟨g', e1, e2, e3⟩ := ih (zU g 54 0 i 0) (i + 1) (by omega)
    refine ⟨g', ?_, ?_, ?_⟩
    · rw [e212_2]
      simp only [e212_0, e212_1, e212_3, e212_5, e212_8, e212_9, e212_12, e212_13, e212_14, e212_15, e212_18, e212_22, e212_25, e212_26, e212_28, e212_29, e212_32, e212_33, e212_36, e212_37, e212_40, e212_41, e212_42, e212_43, e212_44, e212_47, e212_50, e212_53, e212_54, e212_57, e212_58, e212_59, e212_60, e212_61, e212_64, e212_67, e212_70]
      rw [if_neg (by omega), if_pos (by omega), zwr_id (by omega) (by omega), show ((i : Int)).toNat = i by omega]
      exact e1
    · intro k j s h
      rw [e2 k j s (by omega), zU_ne (by omega)]
    · intro s h1 h2
      by_cases q : s = i
      · subst q
        rw [e2 54 0 s (by omega), zU_eq]
      · exact e3 s (by omega) h2
theorem m_lays {w : Nat → Int} (hR : RuOk w) (hP : PeOk w) (d : Nat) (v : Int) (hv : 1 ≤ v ∧ v ≤ 999) (g : zG) (hw : g 46 0 = w) : ∃ g', EvM (d + 4) 212 [.inr (12, 0), .inl v] g = some (none, g') ∧ Fr sWds g g' ∧ ∀ i, i < 8 → g' 54 0 i = wdW w v.toNat 1 0 1 (fun _ => 0) i := by
  obtain ⟨g1, a1, a2, a3⟩ := m_lays0 (d + 4) v g 8 0 (by omega)
  have f1 : Fr sWds g g1 := fun k j i h => a2 k j i (fun q => h (Or.inr q.1))
  have hw1 : g1 46 0 = w := (f1.fn (fun i => by simp [sWds, sCur])).trans hw
  obtain ⟨g2, b1, b2, b3⟩ := m_anew' hR d g1 hw1
  obtain ⟨g3, c1, c2, c3⟩ := m_laysL hR hP (d + 1) v hv.2 v.toNat 1 0 1 0 (fun _ => 0) g2 (by omega) b2 ⟨by omega, ⟨by omega, hP.1⟩, Or.inl rfl⟩ (fun i hi => by rw [b3 54 0 i (by simp [sCur])]; exact a3 i (by omega) hi) (fun i => by omega)
  refine ⟨g3, ?_, (f1.tr (b3.up (fun _ _ _ q => Or.inl q))).tr c2, c3⟩
  rw [en212]
  simp only [e212_0, e212_1, e212_3, e212_5, e212_8, e212_9, e212_12, e212_13, e212_14, e212_15, e212_18, e212_22, e212_25, e212_26, e212_28, e212_29, e212_32, e212_33, e212_36, e212_37, e212_40, e212_41, e212_42, e212_43, e212_44, e212_47, e212_50, e212_53, e212_54, e212_57, e212_58, e212_59, e212_60, e212_61, e212_64, e212_67, e212_70]
  have a1' : Ev (d + 4) 212 2 [some (.inr (12, 0)), some (.inl v), some (.inl 0)] [] g = _ := a1
  rw [a1']
  simp only [e212_0, e212_1, e212_3, e212_5, e212_8, e212_9, e212_12, e212_13, e212_14, e212_15, e212_18, e212_21, e212_22, e212_25, e212_26, e212_28, e212_29, e212_32, e212_33, e212_36, e212_37, e212_40, e212_41, e212_42, e212_43, e212_44, e212_47, e212_50, e212_53, e212_54, e212_57, e212_58, e212_59, e212_60, e212_61, e212_64, e212_67, e212_70, b1, zbV_some]
  exact c1
