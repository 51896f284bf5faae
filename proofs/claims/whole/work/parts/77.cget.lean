/-! THE CLASS: whose, get, hardest, the whole -/
def CoAt (g : zG) (j : Nat) (w : Nat → Int) : Prop := g 1 j 0 = w 0 ∧ g 1 j 1 = w 1 ∧ g 1 j 2 = w 2 ∧ g 1 j 3 = w 3 ∧ g 1 j 4 = w 4 ∧ g 1 j 5 = w 5 ∧ g 1 j 6 = w 7 ∧ g 1 j 7 = w 8
def BkAt (g : zG) (j : Nat) (w : Nat → Int) : Prop := g 0 j 0 = w 6 ∧ ∀ i : Nat, (i : Int) < w 6 → g 20 j i = w (80 + 4 * i) ∧ g 21 j i = w (80 + 4 * i + 1) ∧ g 22 j i = w (80 + 4 * i + 2) ∧ g 23 j i = w (80 + 4 * i + 3)
def RdAt (g : zG) (j : Nat) (w : Nat → Int) (ls : List (List (Int × Int) × List (Int × Int))) : Prop := TbAt g j w ∧ RuAt g j w ∧ LcAt g j ls ∧ g 5 j 5 = w 19 ∧ CoAt g j w ∧ BkAt g j w
/-- the places of a round -/
def sRd (j : Nat) : Nat → Nat → Nat → Prop := fun k a x => a = j ∧ (k = 8 ∨ k = 39 ∨ k = 40 ∨ k = 41 ∨ k = 42 ∨ k = 6 ∨ k = 32 ∨ k = 33 ∨ k = 34 ∨ (k = 3 ∧ x < 3) ∨ k = 28 ∨ (k = 5 ∧ x = 5) ∨ k = 1 ∨ k = 0 ∨ (20 ≤ k ∧ k ≤ 23))
theorem CoAt.on {g g' : zG} {j : Nat} {w : Nat → Int} (h : CoAt g j w) (e : ∀ x, g' 1 j x = g 1 j x) : CoAt g' j w := by
  unfold CoAt
  simp only [e]
  exact h
theorem BkAt.on {g g' : zG} {j : Nat} {w : Nat → Int} (h : BkAt g j w) (e : ∀ k x, k = 0 ∨ (20 ≤ k ∧ k ≤ 23) → g' k j x = g k j x) : BkAt g' j w := by
  refine ⟨by rw [e 0 0 (by omega)]; exact h.1, fun i hi => ?_⟩
  rw [e 20 _ (by omega), e 21 _ (by omega), e 22 _ (by omega), e 23 _ (by omega)]
  exact h.2 i hi
theorem RdAt.on {g g' : zG} {j : Nat} {w : Nat → Int} {ls : List (List (Int × Int) × List (Int × Int))} (h : RdAt g j w ls) (e : ∀ k a x, sRd j k a x → g' k a x = g k a x) : RdAt g' j w ls :=
  ⟨h.1.on (fun k x q => e k j x (by unfold sRd; omega)), h.2.1.on (fun k x q => e k j x (by unfold sRd; omega)), h.2.2.1.on (fun k x q => e k j x (by unfold sRd; omega)), by rw [e 5 j 5 (by unfold sRd; omega)]; exact h.2.2.2.1, h.2.2.2.2.1.on (fun x => e 1 j x (by unfold sRd; omega)), h.2.2.2.2.2.on (fun k x q => e k j x (by unfold sRd; omega))⟩
theorem RdAt.cx {g : zG} {w : Nat → Int} {ls : List (List (Int × Int) × List (Int × Int))} (h : RdAt g 0 w ls) : Cx g 0 w ls := ⟨h.1, h.2.1, h.2.2.1, h.2.2.2.1⟩
theorem k_canCome {w : Nat → Int} {ls : List (List (Int × Int) × List (Int × Int))} (d : Nat) (v : Int) (g : zG) (h : RdAt g 0 w ls) : EvM d 196 [.inr (11, 0), .inl v] g = some (some (.inl (zb (0 < w 17 ∧ w 0 ≤ v ∧ v ≤ 9999))), g) := by
  rw [en196]
  simp only [e196_0, e196_1, e196_4, e196_7, e196_10, e196_13, e196_14, e196_15, e196_18, e196_21, e196_24, e196_27, e196_28, e196_31, e196_34, e196_35, e196_38, e196_39, zU_app, zbI_some, zbV_some, Int.reduceToNat, Int.reduceLE, Int.reduceLT, Int.reduceEq, Nat.reduceEqDiff, and_self, and_true, true_and, and_false, false_and, if_true, if_false, ne_eq, not_true_eq_false, not_false_eq_true, reduceCtorEq, eq_self, true_or, or_true, or_false, false_or, zbR_some, h.1.1, h.2.2.2.2.1.1]
  by_cases h1 : w 17 ≤ 0
  · rw [if_pos h1, zb_f (by omega)]
  · by_cases h2 : v < w 0
    · rw [if_neg h1, if_pos h2, zb_f (by omega)]
    · by_cases h3 : 9999 < v
      · rw [if_neg h1, if_neg h2, if_pos h3, zb_f (by omega)]
      · rw [if_neg h1, if_neg h2, if_neg h3, zb_t (by omega)]
/-- here is where the count is -/
theorem k_here {w : Nat → Int} (d : Nat) (g : zG) (n : Nat) (hn : w 0 = (n : Int)) (h : CoAt g 0 w) : EvM d 152 [.inr (1, 12), .inr (1, 0)] g = some (none, cpC g 12 0) ∧ HeAt (cpC g 12 0) n (w 1) (w 2) (w 3) ∧ Fr sTt g (cpC g 12 0) := by
  obtain ⟨h0, h1, h2, h3, h4, h5, h6, h7⟩ := h
  refine ⟨k_ccopy d 12 0 g (by decide), ⟨?_, ?_, ?_, ?_⟩, fun k a i hk => cpC_ne (fun q => hk (Or.inl q))⟩
  · rw [cpC_at (by decide), h0, hn]
  · rw [cpC_at (by decide), h1]
  · rw [cpC_at (by decide), h2]
  · rw [cpC_at (by decide), h3]
theorem k_chance {w : Nat → Int} {ls : List (List (Int × Int) × List (Int × Int))} (hX : RuX w) (hP : PeOk w) (hW : LwAt w ls) (hO : LsOk ls) (d i v n : Nat) (hv : v < 10000) (hn : n ≤ v) (g : zG) (hC : Cx g i w ls) (hn0 : w 0 = (n : Int)) (hco : CoAt g 0 w) (ho : CuOk w n (w 1) (w 2)) : ∃ g', EvM (d + 5) 201 [.inr (10, 0), .inr (5, 0), .inr (6, i), .inl (v : Int)] g = some (some (.inl (gtW w (v - n) n (w 1) (w 2) (w 3) 1000000)), g') ∧ g' 10 0 0 = (hdW w (v - n) n (w 1) (w 2) n (osW w n (w 1) (w 3)) : Int) ∧ Fr sTt g g' := by
  obtain ⟨e1, h1, f1⟩ := k_here (d + 4) g n hn0 hco
  have hpos := ho.1.1
  have c1 := hC.fr f1
  have hcn : cpC g 12 0 1 0 0 = ((n - 1 + 1 : Nat) : Int) := by
    rw [cpC_ne (by omega), hco.1, hn0]
    omega
  obtain ⟨r, e2, hr, hr2⟩ := k_runAhead (d + 1) 0 i (n - 1) (cpC g 12 0) c1.2.1 hX c1.2.2.1 hcn (by omega)
  have fu : Fr sTt (cpC g 12 0) (zU (cpC g 12 0) 10 0 0 (-1)) := Fr.u (Or.inr (Or.inl rfl))
  obtain ⟨g3, e3, h3, f3⟩ := k_chL hX hP hW hO d i v hv (v - n + 1) n (w 1) (w 2) (w 3) 1000000 (-1) r none none (zU (cpC g 12 0) 10 0 0 (-1)) (by omega) (c1.fr fu) (fun _ => ⟨h1.th 10 0 0 _ (by decide), ho, hr⟩) (by omega) (by omega)
  refine ⟨g3, ?_, ?_, (f1.tr fu).tr f3⟩
  · rw [en201]
    simp only [e201_0, e201_1, e201_4, e201_5, e201_8, e201_11, e201_13, e201_15, e201_16, e201_18, e201_19, e201_20, e201_23, e201_25, e201_26, e201_27, e201_30, e201_31, e201_34, e201_37, e201_41, e201_42, e201_45, e201_46, e201_48, e201_51, e201_53, e201_55, e201_58, e201_59, e201_62, e201_64, e201_65, e201_66, e201_68, e201_69, e201_70, e201_73, e201_74, e201_77, e201_80, e201_83, e201_84, e201_87, e201_89, e201_91, e201_94, e201_96, e201_98, e201_101, e201_103, e201_104, e201_105, e201_108, e201_109, e201_111, e201_113, e201_115, e201_118, e201_120, e201_122, e201_123, e201_125, e201_128, e201_129, e201_132, e201_133, e201_135, e201_136, e201_139, e201_142, e201_145, e201_148, e201_151, e201_153, zU_app, zbI_some, zbV_some, Int.reduceToNat, Int.reduceLE, Int.reduceLT, Int.reduceEq, Nat.reduceEqDiff, and_self, and_true, true_and, and_false, false_and, if_true, if_false, ne_eq, not_true_eq_false, not_false_eq_true, reduceCtorEq, eq_self, true_or, or_true, or_false, false_or, zbR_some, e1, e2]
    rw [show cpC g 12 0 1 12 0 = (n : Int) from h1.1, e3, gtW_gtK]
  · rw [h3, hkW, zU_eq]
    have := odW_rng w (whoW w (w 1)) n (w 3)
    rw [if_pos (show (-1 : Int) < osW w n (w 1) (w 3) by show (-1 : Int) < odW w (whoW w (w 1)) n (w 3); omega), hkW_hdW]
theorem WOk.cu {w : Nat → Int} {ls : List (List (Int × Int) × List (Int × Int))} (h : WOk w ls) (hp : 0 < w 17) : ∃ n : Nat, w 0 = (n : Int) ∧ CuOk w n (w 1) (w 2) := by
  obtain ⟨⟨-, -, -, -, -, ⟨n1, n2, n3, n4⟩, -, -⟩, -, -, -⟩ := h
  exact ⟨(w 0).toNat, by omega, by omega, by have := n2.2 hp; omega, n3⟩
theorem k_get {w : Nat → Int} {ls : List (List (Int × Int) × List (Int × Int))} (hK : WOk w ls) (d : Nat) (x : Int) (g : zG) (h : RdAt g 0 w ls) : ∃ g', EvM (d + 6) 200 [.inr (11, 0), .inl x] g = some (some (.inl (aGet w x)), g') ∧ Fr sTt g g' := by
  have k1 := k_canCome (d + 5) x g h
  unfold aGet
  by_cases hc : 0 < w 17 ∧ w 0 ≤ x ∧ x ≤ 9999
  · obtain ⟨n, hn, ho⟩ := hK.cu hc.1
    obtain ⟨v, rfl⟩ : ∃ v : Nat, x = (v : Int) := ⟨x.toNat, by omega⟩
    obtain ⟨g1, e1, -, f1⟩ := k_chance hK.2.1 (hK.1.2.2.2.2.1 hc.1) hK.2.2.1 hK.2.2.2 d 0 v n (by omega) (by omega) g h.cx hn h.2.2.2.2.1 ho
    refine ⟨g1, ?_, f1⟩
    rw [en200]
    simp only [e200_0, e200_1, e200_2, e200_5, e200_8, e200_9, e200_12, e200_13, e200_16, e200_17, e200_20, e200_23, e200_24, e200_27, e200_30, e200_31, zU_app, zbI_some, zbV_some, Int.reduceToNat, Int.reduceLE, Int.reduceLT, Int.reduceEq, Nat.reduceEqDiff, and_self, and_true, true_and, and_false, false_and, if_true, if_false, ne_eq, not_true_eq_false, not_false_eq_true, reduceCtorEq, eq_self, true_or, or_true, or_false, false_or, zbR_some, k1, e1]
    rw [zb_t hc, if_neg (by decide), if_pos hc, hn, Int.toNat_natCast, show ((v : Int) - (n : Int)).toNat = v - n by omega]
  · refine ⟨g, ?_, Fr.rf⟩
    rw [en200]
    simp only [e200_0, e200_1, e200_2, e200_5, e200_8, e200_9, e200_12, e200_13, e200_16, e200_17, e200_20, e200_23, e200_24, e200_27, e200_30, e200_31, zU_app, zbI_some, zbV_some, Int.reduceToNat, Int.reduceLE, Int.reduceLT, Int.reduceEq, Nat.reduceEqDiff, and_self, and_true, true_and, and_false, false_and, if_true, if_false, ne_eq, not_true_eq_false, not_false_eq_true, reduceCtorEq, eq_self, true_or, or_true, or_false, false_or, zbR_some, k1]
    rw [zb_f hc, if_pos rfl, if_neg hc]
theorem k_hardest {w : Nat → Int} {ls : List (List (Int × Int) × List (Int × Int))} (hK : WOk w ls) (d : Nat) (x : Int) (g : zG) (h : RdAt g 0 w ls) : ∃ g', EvM (d + 6) 204 [.inr (11, 0), .inl x] g = some (some (.inl (aHard w x)), g') ∧ Fr sTt g g' := by
  have k1 := k_canCome (d + 5) x g h
  unfold aHard
  by_cases hc : 0 < w 17 ∧ w 0 ≤ x ∧ x ≤ 9999
  · obtain ⟨n, hn, ho⟩ := hK.cu hc.1
    obtain ⟨v, rfl⟩ : ∃ v : Nat, x = (v : Int) := ⟨x.toNat, by omega⟩
    obtain ⟨g1, e1, h1, f1⟩ := k_chance hK.2.1 (hK.1.2.2.2.2.1 hc.1) hK.2.2.1 hK.2.2.2 d 0 v n (by omega) (by omega) g h.cx hn h.2.2.2.2.1 ho
    refine ⟨g1, ?_, f1⟩
    rw [en204]
    simp only [e204_0, e204_1, e204_2, e204_5, e204_8, e204_9, e204_10, e204_11, e204_14, e204_15, e204_18, e204_19, e204_22, e204_25, e204_26, e204_29, e204_30, e204_31, e204_34, e204_37, zU_app, zbI_some, zbV_some, Int.reduceToNat, Int.reduceLE, Int.reduceLT, Int.reduceEq, Nat.reduceEqDiff, and_self, and_true, true_and, and_false, false_and, if_true, if_false, ne_eq, not_true_eq_false, not_false_eq_true, reduceCtorEq, eq_self, true_or, or_true, or_false, false_or, zbR_some, k1, e1, h1]
    rw [zb_t hc, if_pos (by decide), if_pos hc, hn, Int.toNat_natCast, show ((v : Int) - (n : Int)).toNat = v - n by omega]
  · refine ⟨g, ?_, Fr.rf⟩
    rw [en204]
    simp only [e204_0, e204_1, e204_2, e204_5, e204_8, e204_9, e204_10, e204_11, e204_14, e204_15, e204_18, e204_19, e204_22, e204_25, e204_26, e204_29, e204_30, e204_31, e204_34, e204_37, zU_app, zbI_some, zbV_some, Int.reduceToNat, Int.reduceLE, Int.reduceLT, Int.reduceEq, Nat.reduceEqDiff, and_self, and_true, true_and, and_false, false_and, if_true, if_false, ne_eq, not_true_eq_false, not_false_eq_true, reduceCtorEq, eq_self, true_or, or_true, or_false, false_or, zbR_some, k1]
    rw [zb_f hc, if_neg (by decide), if_neg hc]
theorem k_whose {w : Nat → Int} {ls : List (List (Int × Int) × List (Int × Int))} (hK : WOk w ls) (d : Nat) (x : Int) (g : zG) (h : RdAt g 0 w ls) : ∃ g', EvM (d + 4) 195 [.inr (11, 0), .inl x] g = some (some (.inl (aWho w x)), g') ∧ Fr sTt g g' := by
  have k1 := k_canCome (d + 3) x g h
  unfold aWho
  by_cases hc : 0 < w 17 ∧ w 0 ≤ x ∧ x ≤ 9999
  · obtain ⟨n, hn, ho⟩ := hK.cu hc.1
    obtain ⟨v, rfl⟩ : ∃ v : Nat, x = (v : Int) := ⟨x.toNat, by omega⟩
    obtain ⟨e1, h1, f1⟩ := k_here (d + 2) g n hn h.2.2.2.2.1
    obtain ⟨g2, e2, f2⟩ := k_sayL hK.2.1 (hK.1.2.2.2.2.1 hc.1) d v (by omega) (v - n) n (w 1) (w 2) (w 3) (cpC g 12 0) (by omega) (h.cx.fr f1) h1 ho
    have e3 : EvM (d + 3) 197 [.inr (10, 0), .inr (5, 0), .inl (v : Int)] g = some (some (.inl (whW w (v - n) n (w 1) (w 2) : Int)), g2) := by
      rw [en197]
      simp only [e197_0, e197_1, e197_4, e197_5, e197_8, e197_11, e197_12, e197_15, e197_18, e197_20, e197_21, e197_24, e197_25, e197_28, e197_29, e197_32, e197_33, e197_36, e197_37, e197_40, e197_41, e197_44, e197_47, e197_50, e197_53, e197_56, e197_57, e197_60, e197_61, e197_64, e197_67, e197_70, zU_app, zbI_some, zbV_some, Int.reduceToNat, Int.reduceLE, Int.reduceLT, Int.reduceEq, Nat.reduceEqDiff, and_self, and_true, true_and, and_false, false_and, if_true, if_false, ne_eq, not_true_eq_false, not_false_eq_true, reduceCtorEq, eq_self, true_or, or_true, or_false, false_or, zbR_some, e1]
      rw [show cpC g 12 0 1 12 0 = (n : Int) from h1.1, e2]
    refine ⟨g2, ?_, f1.tr f2⟩
    rw [en195]
    simp only [e195_0, e195_1, e195_2, e195_5, e195_8, e195_9, e195_12, e195_13, e195_16, e195_17, e195_20, e195_23, e195_24, zU_app, zbI_some, zbV_some, Int.reduceToNat, Int.reduceLE, Int.reduceLT, Int.reduceEq, Nat.reduceEqDiff, and_self, and_true, true_and, and_false, false_and, if_true, if_false, ne_eq, not_true_eq_false, not_false_eq_true, reduceCtorEq, eq_self, true_or, or_true, or_false, false_or, zbR_some, k1, e3]
    rw [zb_t hc, if_neg (by decide), if_pos hc, hn, Int.toNat_natCast, show ((v : Int) - (n : Int)).toNat = v - n by omega]
  · refine ⟨g, ?_, Fr.rf⟩
    rw [en195]
    simp only [e195_0, e195_1, e195_2, e195_5, e195_8, e195_9, e195_12, e195_13, e195_16, e195_17, e195_20, e195_23, e195_24, zU_app, zbI_some, zbV_some, Int.reduceToNat, Int.reduceLE, Int.reduceLT, Int.reduceEq, Nat.reduceEqDiff, and_self, and_true, true_and, and_false, false_and, if_true, if_false, ne_eq, not_true_eq_false, not_false_eq_true, reduceCtorEq, eq_self, true_or, or_true, or_false, false_or, zbR_some, k1]
    rw [zb_f hc, if_pos rfl, if_neg hc]
