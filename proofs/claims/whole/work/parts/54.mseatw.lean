/-! the model: seating, the whole -/
theorem seR_ru {w : Nat → Int} {n : Nat} (hn : n ≤ 8) (hR : RuOk w) (l : List Nat) : RuOk (seR w n l) := by
  have e : ∀ i, i < 28 ∨ 36 ≤ i → seR w n l i = w i := fun i hi => by unfold seR; rw [if_neg (by omega)]
  have nr : nR (seR w n l) = nR w := by unfold nR; rw [e 18 (by omega)]
  unfold RuOk at *
  rw [nr, e 18 (by omega)]
  refine ⟨hR.1, hR.2.1, fun r hr => ?_⟩
  rw [e _ (by omega), e _ (by omega)]
  exact hR.2.2 r hr
theorem seR_lw {w : Nat → Int} {n : Nat} (hn : n ≤ 8) (hL : LwOk w) (l : List Nat) : LwOk (seR w n l) := hL.cg (fun i hi => by unfold seR; rw [if_neg (by omega)])
theorem m_seatY {w : Nat → Int} (hR : RuOk w) (hL : LwOk w) (d n v : Nat) (x : Int) (g : zG) (hw : g 46 0 = w) (h17 : w 17 = (n : Int)) (hn : 2 ≤ n ∧ n ≤ 6) (hv : 1 ≤ v ∧ v ≤ 60) (hx : x = 0 ∨ (10 ≤ x ∧ x ≤ 9 + (n : Int))) : ∃ g', EvM (d + 4 + n + 1) 240 [.inr (12, 0), .inl (v : Int), .inl x] g = some (some (.inl (if x = 0 then (bsW w n v).1 else ((bsW w n v).2.getD (x - 10).toNat 0 : Int))), g') ∧ Fr sSt g g' := by
  obtain ⟨g1, a1, a2, a3⟩ := m_stL1 (d + 4 + n + 1) n (by omega) (v : Int) x n 0 g (by omega)
  have r1 : g1 46 0 = w := (a2.fn (fun i => by omega)).trans hw
  have hS : SeIn w n [] (zU g1 12 0 30 (-1) 46 0) := by
    rw [zU_fn (by omega), r1]
    exact ⟨fun i _ => rfl, fun k hk => by cases hk⟩
  have hB : BeAt (zU g1 12 0 30 (-1)) (-1, []) := ⟨zU_eq _ _ _ _ _, fun k hk => by cases hk⟩
  obtain ⟨g2, b1, b2, b3, b4⟩ := m_sits (seR_ru (by omega) hR) (seR_lw (by omega) hL) d v h17 (by omega) (by omega) n [] 0 (-1, []) _ (by simp) List.nodup_nil (fun x hx => by cases hx) ⟨by decide, fun p _ => by simp⟩ hS hB
  obtain ⟨g3, c1, c2, c3⟩ := m_stL2 (d + 4 + n + 1) n (by omega) (v : Int) x n 0 g2 (by omega)
  have hB3 : BeAt g3 (bsW w n v) := ⟨by rw [c2 12 0 30 (by omega)]; exact b3.1, fun k hk => by rw [c2 56 0 k (by omega)]; exact b3.2 k hk⟩
  have start : EvM (d + 4 + n + 1) 240 [.inr (12, 0), .inl (v : Int), .inl x] g = Ev (d + 4 + n + 1) 240 123 [some (.inr (12, 0)), some (.inl (v : Int)), some (.inl x), some (.inl (n : Int)), some (.inl (n : Int))] [] g3 := by
    have s1 : EvM (d + 4 + n + 1) 240 [.inr (12, 0), .inl (v : Int), .inl x] g = Ev (d + 4 + n + 1) 240 50 [some (.inr (12, 0)), some (.inl (v : Int)), some (.inl x), some (.inl (n : Int)), some (.inl 0)] [] g := by
      rw [en240]
      simp only [e240_0, e240_1, e240_4, e240_6, e240_7, e240_8, e240_9, e240_10, e240_12, e240_15, e240_18, e240_19, e240_20, e240_22, e240_25, e240_28, e240_29, e240_32, e240_33, e240_35, e240_37, e240_38, e240_39, e240_42, e240_45, e240_46, e240_48, e240_52, e240_53, e240_56, e240_57, e240_60, e240_62, e240_63, e240_66, e240_68, e240_70, e240_71, e240_72, e240_73, e240_76, e240_79, e240_80, e240_81, e240_84, e240_85, e240_86, e240_87, e240_88, e240_91, e240_92, e240_96, e240_97, e240_100, e240_101, e240_104, e240_106, e240_108, e240_109, e240_110, e240_113, e240_115, e240_116, e240_117, e240_120, e240_123, e240_124, e240_127, e240_128, e240_131, e240_134, e240_135, e240_138, e240_139, e240_141, e240_142, e240_143, zU_app, zbI_some, zbV_some, Int.reduceToNat, Int.reduceLE, Int.reduceLT, Int.reduceEq, Nat.reduceEqDiff, and_self, and_true, true_and, and_false, false_and, if_true, if_false, ne_eq, not_true_eq_false, not_false_eq_true, reduceCtorEq, hw, h17, m_isIn, zwr_id (x := 9 + (n : Int)) (by omega) (by omega)]
      rw [zb_t (show (2 : Int) ≤ n ∧ (n : Int) ≤ 6 by omega), if_neg (by decide), zb_t (show (1 : Int) ≤ v ∧ (v : Int) ≤ 60 by omega), if_neg (by decide)]
      rcases hx with q | q
      · rw [if_pos q]
        simp only [e240_0, e240_1, e240_4, e240_6, e240_7, e240_8, e240_9, e240_10, e240_12, e240_15, e240_18, e240_19, e240_20, e240_22, e240_25, e240_28, e240_29, e240_32, e240_33, e240_35, e240_37, e240_38, e240_39, e240_42, e240_45, e240_46, e240_47, e240_48, e240_52, e240_53, e240_56, e240_57, e240_60, e240_62, e240_63, e240_66, e240_68, e240_70, e240_71, e240_72, e240_73, e240_76, e240_79, e240_80, e240_81, e240_84, e240_85, e240_86, e240_87, e240_88, e240_91, e240_92, e240_96, e240_97, e240_100, e240_101, e240_104, e240_106, e240_108, e240_109, e240_110, e240_113, e240_115, e240_116, e240_117, e240_120, e240_123, e240_124, e240_127, e240_128, e240_131, e240_134, e240_135, e240_138, e240_139, e240_141, e240_142, e240_143]
      · rw [if_neg (by omega), zb_t q, if_pos (by decide)]
        simp only [e240_0, e240_1, e240_4, e240_6, e240_7, e240_8, e240_9, e240_10, e240_12, e240_15, e240_18, e240_19, e240_20, e240_22, e240_25, e240_28, e240_29, e240_32, e240_33, e240_35, e240_37, e240_38, e240_39, e240_42, e240_45, e240_46, e240_47, e240_48, e240_52, e240_53, e240_56, e240_57, e240_60, e240_62, e240_63, e240_66, e240_68, e240_70, e240_71, e240_72, e240_73, e240_76, e240_79, e240_80, e240_81, e240_84, e240_85, e240_86, e240_87, e240_88, e240_91, e240_92, e240_96, e240_97, e240_100, e240_101, e240_104, e240_106, e240_108, e240_109, e240_110, e240_113, e240_115, e240_116, e240_117, e240_120, e240_123, e240_124, e240_127, e240_128, e240_131, e240_134, e240_135, e240_138, e240_139, e240_141, e240_142, e240_143]
    have a1' : Ev (d + 4 + n + 1) 240 50 [some (.inr (12, 0)), some (.inl (v : Int)), some (.inl x), some (.inl (n : Int)), some (.inl 0)] [] g = _ := a1
    have b1' : EvM (d + 4 + n) 241 [.inr (12, 0), .inl 0, .inl 0, .inl (v : Int)] (zU g1 12 0 30 (-1)) = some (none, g2) := b1
    rw [s1, a1']
    simp only [e240_0, e240_1, e240_4, e240_6, e240_7, e240_8, e240_9, e240_10, e240_12, e240_15, e240_18, e240_19, e240_20, e240_22, e240_25, e240_28, e240_29, e240_32, e240_33, e240_35, e240_37, e240_38, e240_39, e240_42, e240_45, e240_46, e240_47, e240_48, e240_52, e240_53, e240_56, e240_57, e240_60, e240_62, e240_63, e240_66, e240_68, e240_70, e240_71, e240_72, e240_73, e240_76, e240_79, e240_80, e240_81, e240_84, e240_85, e240_86, e240_87, e240_88, e240_91, e240_92, e240_96, e240_97, e240_100, e240_101, e240_104, e240_106, e240_108, e240_109, e240_110, e240_113, e240_115, e240_116, e240_117, e240_120, e240_124, e240_127, e240_128, e240_131, e240_134, e240_135, e240_138, e240_139, e240_141, e240_142, e240_143, b1', zbV_some]
    exact c1
  refine ⟨g3, ?_, ?_⟩
  · rw [start]
    rcases hx with q | q
    · simp only [e240_0, e240_1, e240_4, e240_6, e240_7, e240_8, e240_9, e240_10, e240_12, e240_15, e240_18, e240_19, e240_20, e240_22, e240_25, e240_28, e240_29, e240_32, e240_33, e240_35, e240_37, e240_38, e240_39, e240_42, e240_45, e240_46, e240_47, e240_48, e240_52, e240_53, e240_56, e240_57, e240_60, e240_62, e240_63, e240_66, e240_68, e240_70, e240_71, e240_72, e240_73, e240_76, e240_79, e240_80, e240_81, e240_84, e240_85, e240_86, e240_87, e240_88, e240_91, e240_92, e240_96, e240_97, e240_100, e240_101, e240_104, e240_106, e240_108, e240_109, e240_110, e240_113, e240_115, e240_116, e240_117, e240_120, e240_123, e240_124, e240_127, e240_128, e240_131, e240_134, e240_135, e240_138, e240_139, e240_141, e240_142, e240_143, zU_app, zbI_some, zbV_some, Int.reduceToNat, Int.reduceLE, Int.reduceLT, Int.reduceEq, Nat.reduceEqDiff, and_self, and_true, true_and, and_false, false_and, if_true, if_false, ne_eq, not_true_eq_false, not_false_eq_true, reduceCtorEq, q]
      rw [hB3.1]
    · simp only [e240_0, e240_1, e240_4, e240_6, e240_7, e240_8, e240_9, e240_10, e240_12, e240_15, e240_18, e240_19, e240_20, e240_22, e240_25, e240_28, e240_29, e240_32, e240_33, e240_35, e240_37, e240_38, e240_39, e240_42, e240_45, e240_46, e240_47, e240_48, e240_52, e240_53, e240_56, e240_57, e240_60, e240_62, e240_63, e240_66, e240_68, e240_70, e240_71, e240_72, e240_73, e240_76, e240_79, e240_80, e240_81, e240_84, e240_85, e240_86, e240_87, e240_88, e240_91, e240_92, e240_96, e240_97, e240_100, e240_101, e240_104, e240_106, e240_108, e240_109, e240_110, e240_113, e240_115, e240_116, e240_117, e240_120, e240_123, e240_124, e240_127, e240_128, e240_131, e240_134, e240_135, e240_138, e240_139, e240_141, e240_142, e240_143, zU_app, zbI_some, zbV_some, Int.reduceToNat, Int.reduceLE, Int.reduceLT, Int.reduceEq, Nat.reduceEqDiff, and_self, and_true, true_and, and_false, false_and, if_true, if_false, ne_eq, not_true_eq_false, not_false_eq_true, reduceCtorEq]
      have hlen := bsW_len (w := w) (v := v) hn
      rw [if_pos (by omega), zwr_id (by omega) (by omega), if_pos (by omega), if_neg (by omega), hB3.2 _ (by omega)]
  · intro k j i hi
    by_cases hq : k = 46 ∧ j = 0 ∧ 28 ≤ i ∧ i < 28 + n
    · obtain ⟨rfl, rfl, q1, q2⟩ := hq
      have e := c3 (i - 28) (by omega) (by omega)
      rw [show 28 + (i - 28) = i by omega] at e
      rw [e, b4 55 0 _ (by simp [sSi, sCur]), zU_ne (by omega), a3 _ (by omega) (by omega), show 28 + (i - 28) = i by omega]
    · rw [c2 k j i (by omega)]
      by_cases h46 : k = 46 ∧ j = 0
      · obtain ⟨rfl, rfl⟩ := h46
        rw [b2.1 i (by omega), hw]
      · have n55 : ¬ (k = 55 ∧ j = 0) := fun z => hi (Or.inr (Or.inl z))
        have n12 : ¬ (k = 12 ∧ j = 0 ∧ i = 30) := fun z => hi (Or.inr (Or.inr (Or.inr z)))
        rw [b4 k j i (fun z => by
          rcases z with z | z | z | z
          · exact hi (Or.inl z)
          · exact h46 ⟨z.1, z.2.1⟩
          · exact hi (Or.inr (Or.inr (Or.inl z)))
          · exact n12 z), zU_ne n12, a2 k j i (by omega)]
theorem m_seating {w : Nat → Int} (hR : RuOk w) (hL : LwOk w) (h17 : 0 ≤ w 17 ∧ w 17 ≤ 8) (d : Nat) (v x : Int) (g : zG) (hw : g 46 0 = w) : ∃ g', EvM (d + 11) 240 [.inr (12, 0), .inl v, .inl x] g = some (some (.inl (aSeat w v x)), g') ∧ Fr sSt g g' := by
  unfold aSeat
  by_cases h : (2 ≤ w 17 ∧ w 17 ≤ 6) ∧ (1 ≤ v ∧ v ≤ 60) ∧ (x = 0 ∨ (10 ≤ x ∧ x ≤ 9 + w 17))
  · rw [if_pos h]
    obtain ⟨n, hn⟩ : ∃ n : Nat, w 17 = (n : Int) := ⟨(w 17).toNat, by omega⟩
    obtain ⟨u, hu⟩ : ∃ u : Nat, v = (u : Int) := ⟨v.toNat, by omega⟩
    subst hu
    rw [hn] at h ⊢
    obtain ⟨g', a1, a2⟩ := m_seatY hR hL (d + 6 - n) n u x g hw hn (by omega) (by omega) h.2.2
    rw [show d + 6 - n + 4 + n + 1 = d + 11 by omega] at a1
    exact ⟨g', a1, a2⟩
  · rw [if_neg h]
    exact ⟨g, m_seatN (d + 10) v x g hw h17 h, Fr.rf⟩
