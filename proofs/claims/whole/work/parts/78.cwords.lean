/-! THE CLASS: words, sit, plain -/
theorem Cx.th {g : zG} {i : Nat} {w : Nat → Int} {ls : List (List (Int × Int) × List (Int × Int))} (h : Cx g i w ls) {k a x : Nat} {v : Int} (hk : sTt k a x) : Cx (zU g k a x v) i w ls := h.fr (Fr.u hk)
theorem k_cwL {w : Nat → Int} {ls : List (List (Int × Int) × List (Int × Int))} (hX : RuX w) (hP : PeOk w) (d v : Nat) (hv : v ≤ 999) : ∀ (k n : Nat) (s wy t : Int) (c : Nat → Int) (u : Option zV) (g : zG), n + k = v + 1 → Cx g 0 w ls → HeAt g n s wy t → CuOk w n s wy → (∀ i, i < 8 → g 44 0 i = c i) → (∀ i, 0 ≤ c i ∧ c i + k ≤ 1000) → ∃ g', Ev (d + 3) 207 17 [some (.inr (10, 0)), some (.inr (5, 0)), some (.inl (v : Int)), some (.inl (n : Int)), u] [] g = some (none, g') ∧ Fr sTt g g' ∧ ∀ i, i < 8 → g' 44 0 i = wdW w k n s wy c i := by
  intro k
  induction k with
  | zero =>
    intro n s wy t c u g hn hC hH ho hc hb
    refine ⟨g, ?_, Fr.rf, hc⟩
    rw [e207_17]
    simp (disch := omega) only [e207_0, e207_1, e207_4, e207_5, e207_8, e207_9, e207_12, e207_15, e207_16, e207_18, e207_19, e207_22, e207_23, e207_26, e207_27, e207_30, e207_32, e207_34, e207_37, e207_38, e207_41, e207_44, e207_47, e207_48, e207_51, e207_54, e207_56, e207_59, e207_60, e207_63, e207_64, e207_67, e207_70, e207_71, e207_72, e207_73, e207_74, e207_75, e207_76, e207_79, e207_80, e207_83, e207_85, e207_86, e207_89, e207_92, e207_95, e207_98, e207_101, zU_app, zbI_some, zbV_some, Int.reduceToNat, Int.reduceLE, Int.reduceLT, Int.reduceEq, Nat.reduceEqDiff, and_self, and_true, true_and, and_false, false_and, if_true, if_false, ne_eq, not_true_eq_false, not_false_eq_true, reduceCtorEq, eq_self, true_or, or_true, or_false, false_or, zbR_some, zwr_id, if_pos, if_neg]
  | succ k ih =>
    intro n s wy t c u g hn hC hH ho hc hb
    have hm := k_mask (d + 1) n 0 g hC.2.1 hX (by omega)
    have s0 := ho.2.1
    have h8 := hP.2.1
    obtain ⟨p, rfl⟩ : ∃ p : Nat, s = (p : Int) := ⟨s.toNat, by omega⟩
    have hcp := hc p (by omega)
    have hbp := hb p
    have hnx : nxN n = n + 1 := if_neg (by omega)
    -- behind the mark
    have rest : ∀ (g1 : zG) (c1 : Nat → Int), Cx g1 0 w ls → HeAt g1 n p wy t → (∀ i, i < 8 → g1 44 0 i = c1 i) → (∀ i, 0 ≤ c1 i ∧ c1 i + k ≤ 1000) → ∃ g', Ev (d + 3) 207 75 [some (.inr (10, 0)), some (.inr (5, 0)), some (.inl (v : Int)), some (.inl (n : Int)), some (.inl (maW w n : Int))] [] g1 = some (none, g') ∧ Fr sTt g1 g' ∧ ∀ i, i < 8 → g' 44 0 i = wdW w k (nxN n) (seW w n p wy) (wyW w n wy) c1 i := by
      intro g1 c1 q1 q2 q3 q4
      obtain ⟨g2, e2, h2, f2⟩ := k_hereOn d 0 n p wy t g1 q1 hX ⟨hP.1, h8⟩ q2 ho
      have f2' : Fr sTt g1 g2 := f2.up (fun k a i q => Or.inl q)
      have ho1 := CuOk.on hP.1 ho
      rw [hnx] at h2 ho1
      obtain ⟨g3, e3, f3, h3⟩ := ih (n + 1) _ _ _ c1 (some (.inl (maW w n : Int))) g2 (by omega) (q1.fr f2') h2 ho1 (fun i hi => (f2 44 0 i (by omega)).trans (q3 i hi)) q4
      refine ⟨g3, ?_, f2'.tr f3, ?_⟩
      · simp (disch := omega) only [e207_0, e207_1, e207_4, e207_5, e207_8, e207_9, e207_12, e207_15, e207_16, e207_18, e207_19, e207_22, e207_23, e207_26, e207_27, e207_30, e207_32, e207_34, e207_37, e207_38, e207_41, e207_44, e207_47, e207_48, e207_51, e207_54, e207_56, e207_59, e207_60, e207_63, e207_64, e207_67, e207_70, e207_71, e207_72, e207_73, e207_74, e207_75, e207_76, e207_79, e207_80, e207_83, e207_85, e207_86, e207_89, e207_92, e207_95, e207_98, e207_101, zU_app, zbI_some, zbV_some, Int.reduceToNat, Int.reduceLE, Int.reduceLT, Int.reduceEq, Nat.reduceEqDiff, and_self, and_true, true_and, and_false, false_and, if_true, if_false, ne_eq, not_true_eq_false, not_false_eq_true, reduceCtorEq, eq_self, true_or, or_true, or_false, false_or, zbR_some, zwr_id, if_pos, if_neg, q1.1.1, e2]
        exact e3
      · rw [hnx]; exact h3
    rw [e207_17]
    simp (disch := omega) only [e207_0, e207_1, e207_4, e207_5, e207_8, e207_9, e207_12, e207_15, e207_16, e207_18, e207_19, e207_22, e207_23, e207_26, e207_27, e207_30, e207_32, e207_34, e207_37, e207_38, e207_41, e207_44, e207_47, e207_48, e207_51, e207_54, e207_56, e207_59, e207_60, e207_63, e207_64, e207_67, e207_70, e207_71, e207_72, e207_73, e207_74, e207_76, e207_79, e207_80, e207_83, e207_85, e207_86, e207_89, e207_92, e207_95, e207_98, e207_101, zU_app, zbI_some, zbV_some, Int.reduceToNat, Int.reduceLE, Int.reduceLT, Int.reduceEq, Nat.reduceEqDiff, and_self, and_true, true_and, and_false, false_and, if_true, if_false, ne_eq, not_true_eq_false, not_false_eq_true, reduceCtorEq, eq_self, true_or, or_true, or_false, false_or, zbR_some, zwr_id, if_pos, if_neg, hm, hH.2.1, Int.toNat_natCast, hcp]
    rw [wdW]
    by_cases hz : maW w n = 0
    · rw [if_pos (by omega)]
      have ec : (fun i => if i = (p : Int).toNat then c i + (if maW w n = 0 then 0 else 1) else c i) = c := by
        funext i
        rw [if_pos hz]
        split <;> omega
      rw [ec]
      exact rest g c hC hH hc (fun i => by have := hb i; omega)
    · rw [if_neg (by omega)]
      have fu : Fr sTt g (zU g 44 0 p (c p + 1)) := Fr.u (by unfold sTt; omega)
      obtain ⟨g2, e2, f2, h2⟩ := rest (zU g 44 0 p (c p + 1)) (fun i => if i = p then c i + 1 else c i) (hC.fr fu) (hH.th 44 0 p _ (by decide)) (fun i hi => by
        by_cases hip : i = p
        · subst hip; simp [zU_app]
        · simp [zU_app, hip, hc i hi]) (fun i => by have := hb i; show 0 ≤ (if i = p then c i + 1 else c i) ∧ (if i = p then c i + 1 else c i) + (k : Int) ≤ 1000; split <;> omega)
      refine ⟨g2, e2, fu.tr f2, ?_⟩
      rw [Int.toNat_natCast]
      simp only [if_neg hz]
      exact h2
theorem k_countWords {w : Nat → Int} {ls : List (List (Int × Int) × List (Int × Int))} (hX : RuX w) (hP : PeOk w) (d v : Nat) (hv : 1 ≤ v ∧ v ≤ 999) (g : zG) (hC : Cx g 0 w ls) : ∃ g', EvM (d + 3) 207 [.inr (10, 0), .inr (5, 0), .inl (v : Int)] g = some (none, g') ∧ Fr sTt g g' ∧ ∀ i, i < 8 → g' 44 0 i = wdW w v 1 0 1 (fun _ => 0) i := by
  let g2 := zU (zU (zU (zU (zfl44 g 0 8) 1 12 0 1) 1 12 2 1) 1 12 3 0) 1 12 1 0
  have f1 : Fr sTt g (zfl44 g 0 8) := fun k a i hk => by
    unfold zfl44
    rw [if_neg (fun q => hk (by unfold sTt; omega))]
  have f2 : Fr sTt g g2 := f1.tr ((((Fr.u (Or.inl ⟨rfl, rfl⟩)).tr (Fr.u (Or.inl ⟨rfl, rfl⟩))).tr (Fr.u (Or.inl ⟨rfl, rfl⟩))).tr (Fr.u (Or.inl ⟨rfl, rfl⟩)))
  obtain ⟨g3, e3, f3, h3⟩ := k_cwL hX hP d v hv.2 v 1 0 1 0 (fun _ => 0) none g2 (by omega) (hC.fr f2) ⟨rfl, rfl, rfl, rfl⟩ ⟨by omega, by have := hP.1; omega, Or.inl rfl⟩ (fun i hi => by
    show zfl44 g 0 8 44 0 i = 0
    unfold zfl44
    rw [if_pos ⟨rfl, rfl, hi⟩]) (fun i => by omega)
  refine ⟨g3, ?_, f2.tr f3, h3⟩
  rw [en207]
  simp only [e207_0, e207_1, e207_4, e207_5, e207_8, e207_9, e207_12, e207_15, e207_16, e207_18, e207_19, e207_22, e207_23, e207_26, e207_27, e207_30, e207_32, e207_34, e207_37, e207_38, e207_41, e207_44, e207_47, e207_48, e207_51, e207_54, e207_56, e207_59, e207_60, e207_63, e207_64, e207_67, e207_70, e207_71, e207_72, e207_73, e207_74, e207_75, e207_76, e207_79, e207_80, e207_83, e207_85, e207_86, e207_89, e207_92, e207_95, e207_98, e207_101, zU_app, zbI_some, zbV_some, Int.reduceToNat, Int.reduceLE, Int.reduceLT, Int.reduceEq, Nat.reduceEqDiff, and_self, and_true, true_and, and_false, false_and, if_true, if_false, ne_eq, not_true_eq_false, not_false_eq_true, reduceCtorEq, eq_self, true_or, or_true, or_false, false_or, zbR_some, j_fill44, k_goToStart]
  exact e3
theorem k_wordsOf (d s : Nat) (g : zG) (h : s < 8) : EvM d 210 [.inr (10, 0), .inl (s : Int)] g = some (some (.inl (g 44 0 s)), g) := by
  rw [en210]
  simp (disch := omega) only [e210_0, e210_1, e210_4, e210_5, e210_7, e210_10, e210_11, e210_14, e210_15, e210_16, e210_19, e210_20, zU_app, zbI_some, zbV_some, Int.reduceToNat, Int.reduceLE, Int.reduceLT, Int.reduceEq, Nat.reduceEqDiff, and_self, and_true, true_and, and_false, false_and, if_true, if_false, ne_eq, not_true_eq_false, not_false_eq_true, reduceCtorEq, eq_self, true_or, or_true, or_false, false_or, zbR_some, zwr_id, if_pos, if_neg, Int.toNat_natCast]
theorem k_bestL (d : Nat) (n : Int) (c : Nat → Int) (g : zG) (hc : ∀ i, i < 8 → g 44 0 i = c i) (h17 : n ≤ 8) : ∀ (m s b : Nat), ((s + m : Nat) : Int) = n → b < 8 → Ev d 215 4 [some (.inr (10, 0)), some (.inl n), some (.inl (b : Int)), some (.inl (s : Int))] [] g = some (some (.inl (btS c m s b : Int)), g) := by
  intro m
  induction m with
  | zero =>
    intro s b hs hb
    rw [e215_4]
    simp (disch := omega) only [e215_0, e215_1, e215_2, e215_3, e215_5, e215_6, e215_9, e215_10, e215_12, e215_15, e215_16, e215_19, e215_20, e215_21, e215_22, e215_25, e215_26, e215_27, e215_30, e215_31, e215_32, e215_35, e215_38, e215_39, zU_app, zbI_some, zbV_some, Int.reduceToNat, Int.reduceLE, Int.reduceLT, Int.reduceEq, Nat.reduceEqDiff, and_self, and_true, true_and, and_false, false_and, if_true, if_false, ne_eq, not_true_eq_false, not_false_eq_true, reduceCtorEq, eq_self, true_or, or_true, or_false, false_or, zbR_some, zwr_id, if_pos, if_neg]
    rfl
  | succ m ih =>
    intro s b hs hb
    have c1 := hc s (by omega)
    have c2 := hc b hb
    rw [e215_4]
    simp (disch := omega) only [e215_0, e215_1, e215_2, e215_3, e215_5, e215_6, e215_9, e215_10, e215_12, e215_15, e215_16, e215_19, e215_20, e215_21, e215_22, e215_25, e215_26, e215_27, e215_30, e215_31, e215_32, e215_35, e215_38, e215_39, zU_app, zbI_some, zbV_some, Int.reduceToNat, Int.reduceLE, Int.reduceLT, Int.reduceEq, Nat.reduceEqDiff, and_self, and_true, true_and, and_false, false_and, if_true, if_false, ne_eq, not_true_eq_false, not_false_eq_true, reduceCtorEq, eq_self, true_or, or_true, or_false, false_or, zbR_some, zwr_id, if_pos, if_neg, Int.toNat_natCast, c1, c2]
    rw [btS, show (s : Int) + 1 = ((s + 1 : Nat) : Int) by omega]
    by_cases h : c s < c b
    · rw [if_neg (by omega), if_pos h]
      exact ih (s + 1) s (by omega) (by omega)
    · rw [if_pos (by omega), if_neg h]
      exact ih (s + 1) b (by omega) hb
theorem k_words {w : Nat → Int} {ls : List (List (Int × Int) × List (Int × Int))} (hK : WOk w ls) (d : Nat) (s v : Int) (g : zG) (h : RdAt g 0 w ls) : ∃ g', EvM (d + 4) 206 [.inr (11, 0), .inl s, .inl v] g = some (some (.inl (aWords w s v)), g') ∧ Fr sTt g g' := by
  unfold aWords
  by_cases hc : (0 ≤ s ∧ s < w 17) ∧ (1 ≤ v ∧ v ≤ 999)
  · have hP := hK.1.2.2.2.2.1 (by omega)
    have h8 := hP.2.1
    obtain ⟨v, rfl⟩ : ∃ q : Nat, v = (q : Int) := ⟨v.toNat, by omega⟩
    obtain ⟨s, rfl⟩ : ∃ q : Nat, s = (q : Int) := ⟨s.toNat, by omega⟩
    obtain ⟨g1, e1, f1, h1⟩ := k_countWords hK.2.1 hP d v (by omega) g h.cx
    refine ⟨g1, ?_, f1⟩
    have hw := h1 s (by omega)
    rw [en206]
    simp (disch := omega) only [e206_0, e206_1, e206_4, e206_5, e206_6, e206_9, e206_12, e206_15, e206_18, e206_19, e206_20, e206_23, e206_24, e206_27, e206_30, e206_31, e206_32, e206_33, e206_36, e206_37, e206_40, e206_41, e206_44, e206_45, e206_48, e206_49, e206_52, zU_app, zbI_some, zbV_some, Int.reduceToNat, Int.reduceLE, Int.reduceLT, Int.reduceEq, Nat.reduceEqDiff, and_self, and_true, true_and, and_false, false_and, if_true, if_false, ne_eq, not_true_eq_false, not_false_eq_true, reduceCtorEq, eq_self, true_or, or_true, or_false, false_or, zbR_some, zwr_id, if_pos, if_neg, h.1.1, e1, k_wordsOf, hw, Int.toNat_natCast]
  · refine ⟨g, ?_, Fr.rf⟩
    rw [if_neg hc, en206]
    simp only [e206_0, e206_1, e206_4, e206_5, e206_6, e206_9, e206_12, e206_15, e206_18, e206_19, e206_20, e206_23, e206_24, e206_27, e206_30, e206_31, e206_32, e206_33, e206_36, e206_37, e206_40, e206_41, e206_44, e206_45, e206_48, e206_49, e206_52, zU_app, zbI_some, zbV_some, Int.reduceToNat, Int.reduceLE, Int.reduceLT, Int.reduceEq, Nat.reduceEqDiff, and_self, and_true, true_and, and_false, false_and, if_true, if_false, ne_eq, not_true_eq_false, not_false_eq_true, reduceCtorEq, eq_self, true_or, or_true, or_false, false_or, zbR_some, h.1.1]
    by_cases q1 : s < 0
    · rw [if_pos q1]
    · by_cases q2 : w 17 ≤ s
      · rw [if_neg q1, if_pos q2]
      · by_cases q3 : v < 1
        · rw [if_neg q1, if_neg q2, if_pos q3]
        · rw [if_neg q1, if_neg q2, if_neg q3, if_neg (by omega)]
theorem k_sit {w : Nat → Int} {ls : List (List (Int × Int) × List (Int × Int))} (hK : WOk w ls) (d : Nat) (v : Int) (g : zG) (h : RdAt g 0 w ls) : ∃ g', EvM (d + 4) 214 [.inr (11, 0), .inl v] g = some (some (.inl (aSit w v)), g') ∧ Fr sTt g g' := by
  have h17 := hK.1.2.2.2.1
  unfold aSit
  by_cases hc : w 17 ≠ 0 ∧ (1 ≤ v ∧ v ≤ 999)
  · have hP := hK.1.2.2.2.2.1 (by omega)
    have h8 := hP.2.1
    obtain ⟨v, rfl⟩ : ∃ q : Nat, v = (q : Int) := ⟨v.toNat, by omega⟩
    obtain ⟨g1, e1, f1, h1⟩ := k_countWords hK.2.1 hP d v (by omega) g h.cx
    have t1 : g1 8 0 0 = w 17 := (h.cx.fr f1).1.1
    have e2 : ∀ d, EvM d 215 [.inr (10, 0), .inl (w 17)] g1 = some (some (.inl (btS (wdW w v 1 0 1 (fun _ => 0)) ((w 17).toNat - 1) 1 0 : Int)), g1) := by
      intro d
      rw [en215]
      simp only [e215_0, e215_1, e215_2, e215_3, e215_5, e215_6, e215_9, e215_10, e215_12, e215_15, e215_16, e215_19, e215_20, e215_21, e215_22, e215_25, e215_26, e215_27, e215_30, e215_31, e215_32, e215_35, e215_38, e215_39]
      exact k_bestL d (w 17) _ g1 h1 h8 ((w 17).toNat - 1) 1 0 (by omega) (by omega)
    refine ⟨g1, ?_, f1⟩
    rw [if_pos hc, en214]
    simp (disch := omega) only [e214_0, e214_1, e214_4, e214_7, e214_10, e214_13, e214_14, e214_15, e214_18, e214_19, e214_22, e214_25, e214_26, e214_27, e214_28, e214_31, e214_32, e214_35, e214_36, e214_39, e214_40, e214_43, e214_44, e214_47, e214_50, e214_53, e214_56, zU_app, zbI_some, zbV_some, Int.reduceToNat, Int.reduceLE, Int.reduceLT, Int.reduceEq, Nat.reduceEqDiff, and_self, and_true, true_and, and_false, false_and, if_true, if_false, ne_eq, not_true_eq_false, not_false_eq_true, reduceCtorEq, eq_self, true_or, or_true, or_false, false_or, zbR_some, zwr_id, if_pos, if_neg, h.1.1, e1, t1, e2, Int.toNat_natCast]
  · refine ⟨g, ?_, Fr.rf⟩
    rw [if_neg hc, en214]
    simp only [e214_0, e214_1, e214_4, e214_7, e214_10, e214_13, e214_14, e214_15, e214_18, e214_19, e214_22, e214_25, e214_26, e214_27, e214_28, e214_31, e214_32, e214_35, e214_36, e214_39, e214_40, e214_43, e214_44, e214_47, e214_50, e214_53, e214_56, zU_app, zbI_some, zbV_some, Int.reduceToNat, Int.reduceLE, Int.reduceLT, Int.reduceEq, Nat.reduceEqDiff, and_self, and_true, true_and, and_false, false_and, if_true, if_false, ne_eq, not_true_eq_false, not_false_eq_true, reduceCtorEq, eq_self, true_or, or_true, or_false, false_or, zbR_some, h.1.1]
    by_cases q1 : w 17 = 0
    · rw [if_pos q1]
    · by_cases q3 : v < 1
      · rw [if_neg q1, if_pos q3]
      · rw [if_neg q1, if_neg q3, if_neg (by omega)]
theorem k_isSpan (d : Nat) (a b : Int) (g : zG) : EvM d 218 [.inl a, .inl b] g = some (some (.inl (zb (1 ≤ a ∧ a ≤ b ∧ b ≤ 9999))), g) := by
  rw [en218]
  simp only [e218_0, e218_1, e218_2, e218_5, e218_6, e218_7, e218_10, e218_11, e218_14, e218_17, e218_18, e218_21, e218_22]
  by_cases h1 : a < 1
  · rw [if_pos h1, zb_f (by omega)]; simp
  · by_cases h2 : b < a
    · rw [if_neg h1, if_pos h2, zb_f (by omega)]; simp
    · by_cases h3 : 9999 < b
      · rw [if_neg h1, if_neg h2, if_pos h3, zb_f (by omega)]; simp
      · rw [if_neg h1, if_neg h2, if_neg h3, zb_t (by omega)]; simp
def sRn : Nat → Nat → Nat → Prop := fun k a i => k = 10 ∧ a = 0 ∧ 1 ≤ i ∧ i ≤ 3
theorem k_crL {w : Nat → Int} (hX : RuX w) (d : Nat) (a : Int) (b : Nat) (hb : b < 10000) : ∀ (k v : Nat) (n l bg r : Int) (g : zG), v + k = b + 1 → 0 < v → (0 ≤ n ∧ n ≤ v) → (0 ≤ r ∧ r ≤ v) → RuAt g 0 w → g 10 0 1 = n → g 10 0 2 = l → g 10 0 3 = bg → ∃ g', Ev (d + 2) 219 21 [some (.inr (10, 0)), some (.inr (6, 0)), some (.inl a), some (.inl (b : Int)), some (.inl r), some (.inl (v : Int))] [] g = some (none, g') ∧ Fr sRn g g' ∧ g' 10 0 1 = (plW w k v (n, l, bg, r)).1 ∧ g' 10 0 2 = (plW w k v (n, l, bg, r)).2.1 ∧ g' 10 0 3 = (plW w k v (n, l, bg, r)).2.2.1 := by
  intro k
  induction k with
  | zero =>
    intro v n l bg r g hv h0 hn hr hA g1 g2 g3
    refine ⟨g, ?_, Fr.rf, g1, g2, g3⟩
    rw [e219_21]
    simp (disch := omega) only [e219_0, e219_1, e219_2, e219_5, e219_6, e219_7, e219_10, e219_11, e219_12, e219_15, e219_16, e219_18, e219_19, e219_23, e219_24, e219_27, e219_28, e219_30, e219_33, e219_36, e219_37, e219_38, e219_41, e219_42, e219_43, e219_46, e219_47, e219_49, e219_52, e219_55, e219_57, e219_58, e219_61, e219_64, e219_65, e219_67, e219_70, e219_71, e219_73, e219_75, e219_76, e219_77, e219_78, e219_81, e219_84, e219_87, zU_app, zbI_some, zbV_some, Int.reduceToNat, Int.reduceLE, Int.reduceLT, Int.reduceEq, Nat.reduceEqDiff, and_self, and_true, true_and, and_false, false_and, if_true, if_false, ne_eq, not_true_eq_false, not_false_eq_true, reduceCtorEq, eq_self, true_or, or_true, or_false, false_or, zbR_some, zwr_id, if_pos, if_neg]
  | succ k ih =>
    intro v n l bg r g hv h0 hn hr hA g1 g2 g3
    have hm := k_mask d v 0 g hA hX (by omega)
    have rest : ∀ (n' r' : Int) (g4 : zG), (0 ≤ n' ∧ n' ≤ v + 1) → (0 ≤ r' ∧ r' ≤ v + 1) → RuAt g4 0 w → g4 10 0 1 = n' → g4 10 0 2 = l → g4 10 0 3 = bg → ∃ g', Ev (d + 2) 219 55 [some (.inr (10, 0)), some (.inr (6, 0)), some (.inl a), some (.inl (b : Int)), some (.inl r'), some (.inl (v : Int))] [] g4 = some (none, g') ∧ Fr sRn g4 g' ∧ g' 10 0 1 = (plW w k (v + 1) (if l < r' then (n', r', (v : Int) - r' + 1, r') else (n', l, bg, r'))).1 ∧ g' 10 0 2 = (plW w k (v + 1) (if l < r' then (n', r', (v : Int) - r' + 1, r') else (n', l, bg, r'))).2.1 ∧ g' 10 0 3 = (plW w k (v + 1) (if l < r' then (n', r', (v : Int) - r' + 1, r') else (n', l, bg, r'))).2.2.1 := by
      intro n' r' g4 q1 q2 q3 q4 q5 q6
      by_cases hl : l < r'
      · rw [if_pos hl]
        have fu : Fr sRn g4 (zU (zU g4 10 0 2 r') 10 0 3 ((v : Int) - r' + 1)) := (Fr.u (by unfold sRn; omega)).tr (Fr.u (by unfold sRn; omega))
        obtain ⟨g5, e5, f5, h5⟩ := ih (v + 1) n' r' ((v : Int) - r' + 1) r' (zU (zU g4 10 0 2 r') 10 0 3 ((v : Int) - r' + 1)) (by omega) (by omega) (by omega) (by omega) q3 q4 rfl rfl
        refine ⟨g5, ?_, fu.tr f5, h5⟩
        simp (disch := omega) only [e219_0, e219_1, e219_2, e219_5, e219_6, e219_7, e219_10, e219_11, e219_12, e219_15, e219_16, e219_18, e219_19, e219_23, e219_24, e219_27, e219_28, e219_30, e219_33, e219_36, e219_37, e219_38, e219_41, e219_42, e219_43, e219_46, e219_47, e219_49, e219_52, e219_55, e219_57, e219_58, e219_61, e219_64, e219_65, e219_67, e219_70, e219_71, e219_73, e219_75, e219_76, e219_77, e219_78, e219_81, e219_84, e219_87, zU_app, zbI_some, zbV_some, Int.reduceToNat, Int.reduceLE, Int.reduceLT, Int.reduceEq, Nat.reduceEqDiff, and_self, and_true, true_and, and_false, false_and, if_true, if_false, ne_eq, not_true_eq_false, not_false_eq_true, reduceCtorEq, eq_self, true_or, or_true, or_false, false_or, zbR_some, zwr_id, if_pos, if_neg, q5]
        exact e5
      · rw [if_neg hl]
        obtain ⟨g5, e5, f5, h5⟩ := ih (v + 1) n' l bg r' g4 (by omega) (by omega) (by omega) (by omega) q3 q4 q5 q6
        refine ⟨g5, ?_, f5, h5⟩
        simp (disch := omega) only [e219_0, e219_1, e219_2, e219_5, e219_6, e219_7, e219_10, e219_11, e219_12, e219_15, e219_16, e219_18, e219_19, e219_23, e219_24, e219_27, e219_28, e219_30, e219_33, e219_36, e219_37, e219_38, e219_41, e219_42, e219_43, e219_46, e219_47, e219_49, e219_52, e219_55, e219_57, e219_58, e219_61, e219_64, e219_65, e219_67, e219_70, e219_71, e219_73, e219_75, e219_76, e219_77, e219_78, e219_81, e219_84, e219_87, zU_app, zbI_some, zbV_some, Int.reduceToNat, Int.reduceLE, Int.reduceLT, Int.reduceEq, Nat.reduceEqDiff, and_self, and_true, true_and, and_false, false_and, if_true, if_false, ne_eq, not_true_eq_false, not_false_eq_true, reduceCtorEq, eq_self, true_or, or_true, or_false, false_or, zbR_some, zwr_id, if_pos, if_neg, q5]
        exact e5
    rw [e219_21]
    simp (disch := omega) only [e219_0, e219_1, e219_2, e219_5, e219_6, e219_7, e219_10, e219_11, e219_12, e219_15, e219_16, e219_18, e219_19, e219_23, e219_24, e219_27, e219_28, e219_30, e219_33, e219_36, e219_37, e219_38, e219_41, e219_42, e219_43, e219_46, e219_47, e219_49, e219_52, e219_57, e219_58, e219_61, e219_64, e219_65, e219_67, e219_70, e219_71, e219_73, e219_75, e219_76, e219_77, e219_78, e219_81, e219_84, e219_87, zU_app, zbI_some, zbV_some, Int.reduceToNat, Int.reduceLE, Int.reduceLT, Int.reduceEq, Nat.reduceEqDiff, and_self, and_true, true_and, and_false, false_and, if_true, if_false, ne_eq, not_true_eq_false, not_false_eq_true, reduceCtorEq, eq_self, true_or, or_true, or_false, false_or, zbR_some, zwr_id, if_pos, if_neg, hm, g1]
    rw [plW]
    by_cases hz : maW w v = 0
    · rw [if_neg (by omega), if_pos hz, if_pos hz]
      have fu : Fr sRn g (zU g 10 0 1 (n + 1)) := Fr.u (by unfold sRn; omega)
      obtain ⟨g5, e5, f5, h5⟩ := rest (n + 1) 0 (zU g 10 0 1 (n + 1)) (by omega) (by omega) hA rfl g2 g3
      exact ⟨g5, e5, fu.tr f5, h5⟩
    · rw [if_pos (by omega), if_neg hz, if_neg hz]
      exact rest n (r + 1) g (by omega) (by omega) hA g1 g2 g3
theorem k_plain {w : Nat → Int} {ls : List (List (Int × Int) × List (Int × Int))} (hK : WOk w ls) (d : Nat) (a b x : Int) (g : zG) (h : RdAt g 0 w ls) : ∃ g', EvM (d + 3) 217 [.inr (11, 0), .inl a, .inl b, .inl x] g = some (some (.inl (aPlain w a b x)), g') ∧ Fr sTt g g' := by
  have k1 := k_isSpan (d + 2) a b g
  unfold aPlain
  by_cases hs : 1 ≤ a ∧ a ≤ b ∧ b ≤ 9999
  · by_cases hx : 0 ≤ x ∧ x ≤ 2
    · obtain ⟨a, rfl⟩ : ∃ q : Nat, a = (q : Int) := ⟨a.toNat, by omega⟩
      obtain ⟨b, rfl⟩ : ∃ q : Nat, b = (q : Int) := ⟨b.toNat, by omega⟩
      have fu : Fr sRn g (zU (zU (zU g 10 0 1 0) 10 0 2 0) 10 0 3 (-1)) := ((Fr.u (by unfold sRn; omega)).tr (Fr.u (by unfold sRn; omega))).tr (Fr.u (by unfold sRn; omega))
      obtain ⟨g1, e1, f1, h1, h2, h3⟩ := k_crL hK.2.1 d a b (by omega) (b - a + 1) a 0 0 (-1) 0 (zU (zU (zU g 10 0 1 0) 10 0 2 0) 10 0 3 (-1)) (by omega) (by omega) (by omega) (by omega) h.2.1 rfl rfl rfl
      have e2 : EvM (d + 2) 219 [.inr (10, 0), .inr (6, 0), .inl (a : Int), .inl (b : Int)] g = some (none, g1) := by
        rw [en219]
        simp only [e219_0, e219_1, e219_2, e219_5, e219_6, e219_7, e219_10, e219_11, e219_12, e219_15, e219_16, e219_18, e219_19, e219_23, e219_24, e219_27, e219_28, e219_30, e219_33, e219_36, e219_37, e219_38, e219_41, e219_42, e219_43, e219_46, e219_47, e219_49, e219_52, e219_55, e219_57, e219_58, e219_61, e219_64, e219_65, e219_67, e219_70, e219_71, e219_73, e219_75, e219_76, e219_77, e219_78, e219_81, e219_84, e219_87]
        exact e1
      refine ⟨g1, ?_, (fu.tr f1).up (fun k a i q => by unfold sRn at q; unfold sTt; omega)⟩
      rw [if_pos ⟨hs, hx⟩, en217]
      simp only [e217_0, e217_1, e217_2, e217_5, e217_8, e217_9, e217_12, e217_13, e217_14, e217_17, e217_18, e217_19, e217_20, e217_23, e217_24, e217_27, e217_30, e217_31, e217_32, e217_35, e217_36, e217_39, e217_40, e217_43, e217_46, e217_47, e217_48, e217_49, e217_52, e217_53, e217_56, e217_59, e217_62, e217_63, e217_66, e217_69, zU_app, zbI_some, zbV_some, Int.reduceToNat, Int.reduceLE, Int.reduceLT, Int.reduceEq, Nat.reduceEqDiff, and_self, and_true, true_and, and_false, false_and, if_true, if_false, ne_eq, not_true_eq_false, not_false_eq_true, reduceCtorEq, eq_self, true_or, or_true, or_false, false_or, zbR_some, k1, e2, h1, h2, h3]
      rw [zb_t hs, if_neg (by decide), if_neg (by omega), if_pos (by omega), show ((b : Int) - (a : Int) + 1).toNat = b - a + 1 by omega, Int.toNat_natCast]
      unfold plA
      by_cases x0 : x = 0
      · rw [if_neg (by omega), if_pos x0]
      · by_cases x1 : x = 1
        · rw [if_pos x0, if_neg (by omega), if_neg x0, if_pos x1]
        · rw [if_pos x0, if_pos x1, if_neg x0, if_neg x1]
    · refine ⟨g, ?_, Fr.rf⟩
      rw [if_neg (fun q => hx q.2), en217]
      simp only [e217_0, e217_1, e217_2, e217_5, e217_8, e217_9, e217_12, e217_13, e217_14, e217_17, e217_18, e217_19, e217_20, e217_23, e217_24, e217_27, e217_30, e217_31, e217_32, e217_35, e217_36, e217_39, e217_40, e217_43, e217_46, e217_47, e217_48, e217_49, e217_52, e217_53, e217_56, e217_59, e217_62, e217_63, e217_66, e217_69, zU_app, zbI_some, zbV_some, Int.reduceToNat, Int.reduceLE, Int.reduceLT, Int.reduceEq, Nat.reduceEqDiff, and_self, and_true, true_and, and_false, false_and, if_true, if_false, ne_eq, not_true_eq_false, not_false_eq_true, reduceCtorEq, eq_self, true_or, or_true, or_false, false_or, zbR_some, k1]
      rw [zb_t hs, if_neg (by decide)]
      by_cases x0 : x < 0
      · rw [if_pos x0]
      · rw [if_neg x0, if_neg (by omega)]
  · refine ⟨g, ?_, Fr.rf⟩
    rw [if_neg (fun q => hs q.1), en217]
    simp only [e217_0, e217_1, e217_2, e217_5, e217_8, e217_9, e217_12, e217_13, e217_14, e217_17, e217_18, e217_19, e217_20, e217_23, e217_24, e217_27, e217_30, e217_31, e217_32, e217_35, e217_36, e217_39, e217_40, e217_43, e217_46, e217_47, e217_48, e217_49, e217_52, e217_53, e217_56, e217_59, e217_62, e217_63, e217_66, e217_69, zU_app, zbI_some, zbV_some, Int.reduceToNat, Int.reduceLE, Int.reduceLT, Int.reduceEq, Nat.reduceEqDiff, and_self, and_true, true_and, and_false, false_and, if_true, if_false, ne_eq, not_true_eq_false, not_false_eq_true, reduceCtorEq, eq_self, true_or, or_true, or_false, false_or, zbR_some, k1]
    rw [zb_f hs, if_pos rfl]
