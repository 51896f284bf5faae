/-! THE CLASS: tokens -/
def kT (t : Int) : Int := if t = 0 then 0 else if t = 1 then 8 else if t = 2 then 9 else if t = 3 then 11 else if t = 4 then 12 else if t = 5 then 13 else if t = 6 then 14 else if t = 20 then 10 else if t < 100 then t - 40 else t - 100
theorem k_sign (d p T : Nat) (b : Nat → Int) (g : zG) (h : TpAt g b T) : EvM d 58 [.inr (9, 0), .inl (p : Int)] g = some (some (.inl (if p < T then b p else 0)), g) := by
  obtain ⟨h1, h2, h3⟩ := h
  rw [en58]
  simp only [e58_0, e58_1, e58_4, e58_5, e58_6, e58_9, e58_12, e58_13, e58_16, e58_19, e58_20, e58_23, e58_24, e58_25, e58_28, e58_29, e58_32, e58_33, zU_app, zbI_some, zbV_some, Int.reduceToNat, Int.reduceLE, Int.reduceLT, Int.reduceEq, Nat.reduceEqDiff, and_self, and_true, true_and, and_false, false_and, if_true, if_false, ne_eq, not_true_eq_false, not_false_eq_true, reduceCtorEq, eq_self, true_or, or_true, or_false, false_or, zbR_some, h1, Int.toNat_natCast]
  by_cases q : p < T
  · rw [if_neg (by omega), if_neg (by omega), if_neg (by omega), if_pos (by omega), h3 p q, if_pos q]
  · rw [if_neg (by omega), if_pos (by omega), if_neg q]
theorem k_isBlank (d : Nat) (c : Int) (g : zG) : EvM d 59 [.inl c] g = some (some (.inl (zb (c = 32 ∨ c = 10))), g) := by
  rw [en59]
  simp only [e59_0, e59_1, e59_3, e59_6, e59_7, e59_9, e59_12, e59_13, e59_16, e59_17, zU_app, zbI_some, zbV_some, Int.reduceToNat, Int.reduceLE, Int.reduceLT, Int.reduceEq, Nat.reduceEqDiff, and_self, and_true, true_and, and_false, false_and, if_true, if_false, ne_eq, not_true_eq_false, not_false_eq_true, reduceCtorEq, eq_self, true_or, or_true, or_false, false_or, zbR_some]
  by_cases h1 : c = 32
  · rw [if_pos h1, zb_t (Or.inl h1)]
  · by_cases h2 : c = 10
    · rw [if_neg h1, if_neg (fun q => q h2), zb_t (Or.inr h2)]
    · rw [if_neg h1, if_pos h2, zb_f (by omega)]
theorem k_isLetter (d : Nat) (c : Int) (g : zG) : EvM d 60 [.inl c] g = some (some (.inl (zbo (isL c))), g) := by
  rw [en60]
  simp only [e60_0, e60_1, e60_3, e60_6, e60_7, e60_9, e60_12, e60_13, e60_15, e60_18, e60_19, e60_21, e60_24, e60_25, e60_28, e60_29, zU_app, zbI_some, zbV_some, Int.reduceToNat, Int.reduceLE, Int.reduceLT, Int.reduceEq, Nat.reduceEqDiff, and_self, and_true, true_and, and_false, false_and, if_true, if_false, ne_eq, not_true_eq_false, not_false_eq_true, reduceCtorEq, eq_self, true_or, or_true, or_false, false_or, zbR_some]
  unfold isL
  by_cases h1 : c < 97
  · rw [if_pos h1, decide_eq_false (show ¬ 97 ≤ c by omega), Bool.false_and, Bool.false_or]
    by_cases h2 : c < 65
    · rw [if_pos h2, decide_eq_false (show ¬ 65 ≤ c by omega), Bool.false_and]; rfl
    · rw [if_neg h2, decide_eq_true (show 65 ≤ c by omega), Bool.true_and]
      by_cases h3 : 90 < c
      · rw [if_pos h3, decide_eq_false (by omega)]; rfl
      · rw [if_neg h3, decide_eq_true (by omega)]; rfl
  · rw [if_neg h1, decide_eq_true (show 97 ≤ c by omega), Bool.true_and]
    by_cases h2 : c ≤ 122
    · rw [if_pos h2, decide_eq_true h2, Bool.true_or]; rfl
    · rw [if_neg h2, decide_eq_false h2, Bool.false_or, if_neg (by omega), if_pos (by omega), decide_eq_false (show ¬ c ≤ 90 by omega), Bool.and_false]; rfl
theorem k_isDigit (d : Nat) (c : Int) (g : zG) : EvM d 75 [.inl c] g = some (some (.inl (zbo (isD c))), g) := by
  rw [en75]
  simp only [e75_0, e75_1, e75_3, e75_6, e75_7, e75_9, e75_12, e75_13, e75_16, e75_17, zU_app, zbI_some, zbV_some, Int.reduceToNat, Int.reduceLE, Int.reduceLT, Int.reduceEq, Nat.reduceEqDiff, and_self, and_true, true_and, and_false, false_and, if_true, if_false, ne_eq, not_true_eq_false, not_false_eq_true, reduceCtorEq, eq_self, true_or, or_true, or_false, false_or, zbR_some]
  unfold isD
  by_cases h1 : c < 48
  · rw [if_pos h1, decide_eq_false (show ¬ 48 ≤ c by omega), Bool.false_and]; rfl
  · rw [if_neg h1, decide_eq_true (show 48 ≤ c by omega), Bool.true_and]
    by_cases h2 : 57 < c
    · rw [if_pos h2, decide_eq_false (by omega)]; rfl
    · rw [if_neg h2, decide_eq_true (by omega)]; rfl
theorem k_spL (d j ta T : Nat) (b : Nat → Int) (g : zG) (hT : TpAt g b T) (hta : g 9 0 3 = (ta : Int)) (h4 : ta + (zt j).length ≤ T) : ∀ (l : List Int) (k : Nat), (zt j).drop k = l → k ≤ (zt j).length → Ev (d + 4) 63 20 [some (.inr (9, 0)), some (.inr (61, j)), some (.inl (k : Int))] [] g = some (some (.inl (zbo (spB b (ta + k) l))), g) := by
  have hT4 := hT.2.1
  intro l
  induction l with
  | nil =>
    intro k hk hl
    have : (zt j).length ≤ k := by
      have := congrArg List.length hk
      rw [List.length_drop] at this
      simp at this
      omega
    rw [e63_20]
    simp only [e63_0, e63_1, e63_4, e63_5, e63_8, e63_9, e63_12, e63_13, e63_16, e63_17, e63_18, e63_19, e63_21, e63_22, e63_25, e63_28, e63_29, e63_30, e63_33, e63_34, e63_35, e63_38, e63_39, e63_40, e63_43, e63_46, e63_47, e63_48, e63_51, e63_54, e63_55, zU_app, zbI_some, zbV_some, Int.reduceToNat, Int.reduceLE, Int.reduceLT, Int.reduceEq, Nat.reduceEqDiff, and_self, and_true, true_and, and_false, false_and, if_true, if_false, ne_eq, not_true_eq_false, not_false_eq_true, reduceCtorEq, eq_self, true_or, or_true, or_false, false_or, zbR_some, j_length]
    rw [if_pos (by omega)]
    rfl
  | cons c l ih =>
    intro k hk hl
    have hlt : k < (zt j).length := by
      have := congrArg List.length hk
      rw [List.length_drop] at this
      simp at this
      omega
    have hc : (zt j).getD k 0 = c := by
      have := congrArg (fun l => l.getD 0 0) hk
      simp only [List.getD_eq_getElem?_getD, List.getElem?_drop] at this
      rw [List.getD_eq_getElem?_getD]
      simpa using this
    have hd : (zt j).drop (k + 1) = l := by
      rw [← List.tail_drop, hk]; rfl
    have ks := k_sign (d + 3) (ta + k) T b g hT
    rw [if_pos (by omega)] at ks
    have z1 : zwr ((ta : Int) + (k : Int)) = ((ta + k : Nat) : Int) := by rw [zwr_id (by omega) (by omega)]; omega
    have z2 : zwr ((k : Int) + 1) = ((k + 1 : Nat) : Int) := by rw [zwr_id (by omega) (by omega)]; omega
    rw [e63_20]
    simp only [e63_0, e63_1, e63_4, e63_5, e63_8, e63_9, e63_12, e63_13, e63_16, e63_17, e63_18, e63_19, e63_21, e63_22, e63_25, e63_28, e63_29, e63_30, e63_33, e63_34, e63_35, e63_38, e63_39, e63_40, e63_43, e63_46, e63_47, e63_48, e63_51, e63_54, e63_55, zU_app, zbI_some, zbV_some, Int.reduceToNat, Int.reduceLE, Int.reduceLT, Int.reduceEq, Nat.reduceEqDiff, and_self, and_true, true_and, and_false, false_and, if_true, if_false, ne_eq, not_true_eq_false, not_false_eq_true, reduceCtorEq, eq_self, true_or, or_true, or_false, false_or, zbR_some, j_length, hta, j_charAt _ _ _ _ (show 0 ≤ (k : Int) ∧ (k : Int) < ((zt j).length : Int) by omega), z1, z2, ks, Int.toNat_natCast, hc]
    rw [if_neg (by omega), spB]
    by_cases hq : b (ta + k) = c
    · rw [if_pos hq.symm, decide_eq_true hq, Bool.true_and]
      exact ih (k + 1) hd (by omega)
    · rw [if_neg (fun z => hq z.symm), decide_eq_false hq, Bool.false_and]
      rfl
theorem k_spells (d j ta e T : Nat) (b : Nat → Int) (g : zG) (hT : TpAt g b T) (hta : g 9 0 3 = (ta : Int)) (he : g 9 0 4 = (e : Int)) (h4 : e ≤ T) (hle : ta ≤ e) : EvM (d + 4) 63 [.inr (9, 0), .inr (61, j)] g = some (some (.inl (zbo (isW' b ta e j))), g) := by
  have hl := zt_len j
  have hT4 := hT.2.1
  unfold isW'
  have z1 : zwr ((e : Int) - (ta : Int)) = ((e - ta : Nat) : Int) := by rw [zwr_id (by omega) (by omega)]; omega
  rw [en63]
  simp only [e63_0, e63_1, e63_4, e63_5, e63_8, e63_9, e63_12, e63_13, e63_16, e63_17, e63_18, e63_19, e63_21, e63_22, e63_25, e63_28, e63_29, e63_30, e63_33, e63_34, e63_35, e63_38, e63_39, e63_40, e63_43, e63_46, e63_47, e63_48, e63_51, e63_54, e63_55, zU_app, zbI_some, zbV_some, Int.reduceToNat, Int.reduceLE, Int.reduceLT, Int.reduceEq, Nat.reduceEqDiff, and_self, and_true, true_and, and_false, false_and, if_true, if_false, ne_eq, not_true_eq_false, not_false_eq_true, reduceCtorEq, eq_self, true_or, or_true, or_false, false_or, zbR_some, j_length, hta, he, z1]
  by_cases h : e - ta = (zt j).length
  · rw [if_pos (by omega), decide_eq_true h, Bool.true_and]
    exact k_spL d j ta T b g hT hta (by omega) (zt j) 0 rfl (by omega)
  · rw [if_neg (by omega), decide_eq_false h, Bool.false_and]
    rfl
theorem spB_inj (b : Nat → Int) : ∀ (l l' : List Int) (a : Nat), l.length = l'.length → spB b a l = true → spB b a l' = true → l = l'
  | [], [], _, _, _, _ => rfl
  | [], c :: l', _, h, _, _ => by simp at h
  | c :: l, [], _, h, _, _ => by simp at h
  | c :: l, c' :: l', a, h, h1, h2 => by
    rw [spB, Bool.and_eq_true, decide_eq_true_eq] at h1 h2
    rw [spB_inj b l l' (a + 1) (by simpa using h) h1.2 h2.2, ← h1.1, ← h2.1]
theorem isW_inj {b : Nat → Int} {ta e j j' : Nat} (h : isW' b ta e j = true) (h' : isW' b ta e j' = true) : zt j = zt j' := by
  unfold isW' at h h'
  rw [Bool.and_eq_true, decide_eq_true_eq] at h h'
  exact spB_inj b _ _ ta (by omega) h.2 h'.2
theorem isW_ne {b : Nat → Int} {ta e j j' : Nat} (h : isW' b ta e j = true) (hn : zt j ≠ zt j') : isW' b ta e j' = false := by
  cases q : isW' b ta e j' with
  | false => rfl
  | true => exact absurd (isW_inj h q) hn
theorem zt_same : zt 0 = zt 17 ∧ zt 1 = zt 13 ∧ zt 2 = zt 14 ∧ zt 3 = zt 15 ∧ zt 4 = zt 16 ∧ zt 5 = zt 18 ∧ zt 6 = zt 19 ∧ zt 7 = zt 20 ∧ zt 8 = zt 21 ∧ zt 9 = zt 22 ∧ zt 10 = zt 23 ∧ zt 11 = zt 24 := by decide +kernel
theorem isW_cg {b : Nat → Int} {ta e j j' : Nat} (h : zt j = zt j') : isW' b ta e j = isW' b ta e j' := by unfold isW'; rw [h]
theorem kw_eq (b : Nat → Int) (ta e : Nat) : (if isW' b ta e 0 then 10 else if isW' b ta e 1 then 11 else if isW' b ta e 2 then 12 else if isW' b ta e 3 then 13 else if isW' b ta e 4 then 14 else if isW' b ta e 5 then 1 else if isW' b ta e 6 then 2 else if isW' b ta e 7 then 3 else if isW' b ta e 8 then 4 else if isW' b ta e 9 then 5 else if isW' b ta e 10 then 6 else if isW' b ta e 11 then 7 else (8 : Int)) = kT (wdT b ta e) := by
  obtain ⟨s0, s1, s2, s3, s4, s5, s6, s7, s8, s9, s10, s11⟩ := zt_same
  rw [isW_cg (j := 0) s0, isW_cg (j := 1) s1, isW_cg (j := 2) s2, isW_cg (j := 3) s3, isW_cg (j := 4) s4, isW_cg (j := 5) s5, isW_cg (j := 6) s6, isW_cg (j := 7) s7, isW_cg (j := 8) s8, isW_cg (j := 9) s9, isW_cg (j := 10) s10, isW_cg (j := 11) s11]
  unfold wdT nmT
  cases h17 : isW' b ta e 17 with
  | true =>
    rw [isW_ne h17 (j' := 13) (by decide +kernel), isW_ne h17 (j' := 14) (by decide +kernel), isW_ne h17 (j' := 15) (by decide +kernel), isW_ne h17 (j' := 16) (by decide +kernel)]
    rfl
  | false =>
    cases isW' b ta e 13 with
    | true => rfl
    | false =>
      cases isW' b ta e 14 with
      | true => rfl
      | false =>
        cases isW' b ta e 15 with
        | true => rfl
        | false =>
          cases isW' b ta e 16 with
          | true => rfl
          | false =>
            cases isW' b ta e 18 with
            | true => rfl
            | false =>
              cases isW' b ta e 19 with
              | true => rfl
              | false =>
                cases isW' b ta e 20 with
                | true => rfl
                | false =>
                  cases isW' b ta e 21 with
                  | true => rfl
                  | false =>
                    cases isW' b ta e 22 with
                    | true => rfl
                    | false =>
                      cases isW' b ta e 23 with
                      | true => rfl
                      | false => cases isW' b ta e 24 <;> rfl
theorem ite_push {c : Bool} {a b : Int} {g : zG} : (some (some (Sum.inl (if c = true then a else b)), g) : Option (Option zV × zG)) = if c = true then some (some (Sum.inl a), g) else some (some (Sum.inl b), g) := by cases c <;> rfl
theorem k_keyword (d ta e T : Nat) (b : Nat → Int) (g : zG) (hT : TpAt g b T) (hta : g 9 0 3 = (ta : Int)) (he : g 9 0 4 = (e : Int)) (h4 : e ≤ T) (hle : ta ≤ e) : EvM (d + 5) 62 [.inr (9, 0)] g = some (some (.inl (kT (wdT b ta e))), g) := by
  have ks := fun j => k_spells d j ta e T b g hT hta he h4 hle
  rw [en62, ← kw_eq]
  simp only [e62_0, e62_1, e62_3, e62_6, e62_9, e62_11, e62_12, e62_13, e62_15, e62_18, e62_21, e62_23, e62_24, e62_25, e62_27, e62_30, e62_33, e62_35, e62_36, e62_37, e62_39, e62_42, e62_45, e62_47, e62_48, e62_49, e62_51, e62_54, e62_57, e62_59, e62_60, e62_61, e62_63, e62_66, e62_69, e62_70, e62_71, e62_72, e62_74, e62_77, e62_80, e62_81, e62_82, e62_83, e62_85, e62_88, e62_91, e62_92, e62_93, e62_94, e62_96, e62_99, e62_102, e62_103, e62_104, e62_105, e62_107, e62_110, e62_113, e62_114, e62_115, e62_116, e62_118, e62_121, e62_124, e62_126, e62_127, e62_128, e62_130, e62_133, e62_136, e62_138, e62_139, e62_141, zU_app, zbI_some, zbV_some, Int.reduceToNat, Int.reduceLE, Int.reduceLT, Int.reduceEq, Nat.reduceEqDiff, and_self, and_true, true_and, and_false, false_and, if_true, if_false, ne_eq, not_true_eq_false, not_false_eq_true, reduceCtorEq, eq_self, true_or, or_true, or_false, false_or, zbR_some, ks, zbo_if, ite_push]
def sAd : Nat → Nat → Nat → Prop := fun k a y => k = 9 ∧ a = 0 ∧ 1 ≤ y ∧ y ≤ 4
theorem TpAt.ad {g g' : zG} {b : Nat → Int} {T : Nat} (h : TpAt g b T) (hf : Fr sAd g g') : TpAt g' b T := h.on (fun k x q => hf k 0 x (by unfold sAd; omega))
theorem k_adB (d T : Nat) (b : Nat → Int) (u : Option zV) : ∀ (m a : Nat) (g : zG), a + m = T → TpAt g b T → g 9 0 4 = (a : Int) → Ev (d + 7) 57 0 [some (.inr (9, 0)), u] [] g = Ev (d + 7) 57 38 [some (.inr (9, 0)), u] [] (zU g 9 0 4 (skB b m a : Int)) := by
  intro m
  induction m with
  | zero =>
    intro a g ha hT hg
    rw [show zU g 9 0 4 (skB b 0 a : Int) = g from zU_self hg, e57_0]
    simp (disch := omega) only [e57_1, e57_4, e57_5, e57_8, e57_11, e57_12, e57_13, e57_16, e57_19, e57_22, e57_25, e57_26, e57_27, e57_30, e57_31, e57_32, e57_35, e57_39, e57_40, e57_43, e57_46, e57_47, e57_48, e57_51, e57_54, e57_55, e57_56, e57_59, e57_60, e57_63, e57_66, e57_67, e57_68, e57_71, e57_74, e57_75, e57_78, e57_81, e57_82, e57_85, e57_88, e57_89, e57_92, e57_95, e57_96, e57_99, e57_102, e57_103, e57_105, e57_106, e57_107, e57_110, e57_113, e57_114, e57_117, e57_119, e57_122, e57_123, e57_124, e57_127, e57_128, e57_129, e57_132, zU_app, zbI_some, zbV_some, Int.reduceToNat, Int.reduceLE, Int.reduceLT, Int.reduceEq, Nat.reduceEqDiff, and_self, and_true, true_and, and_false, false_and, if_true, if_false, ne_eq, not_true_eq_false, not_false_eq_true, reduceCtorEq, eq_self, true_or, or_true, or_false, false_or, zbR_some, zwr_id, if_pos, if_neg, hg, hT.1]
  | succ m ih =>
    intro a g ha hT hg
    have hT4 := hT.2.1
    have ks := k_sign (d + 6) a T b g hT
    rw [if_pos (by omega)] at ks
    have z1 : zwr ((a : Int) + 1) = ((a + 1 : Nat) : Int) := by rw [zwr_id (by omega) (by omega)]; omega
    rw [e57_0]
    simp only [e57_1, e57_4, e57_5, e57_8, e57_11, e57_12, e57_13, e57_16, e57_19, e57_22, e57_25, e57_26, e57_27, e57_30, e57_31, e57_32, e57_35, e57_39, e57_40, e57_43, e57_46, e57_47, e57_48, e57_51, e57_54, e57_55, e57_56, e57_59, e57_60, e57_63, e57_66, e57_67, e57_68, e57_71, e57_74, e57_75, e57_78, e57_81, e57_82, e57_85, e57_88, e57_89, e57_92, e57_95, e57_96, e57_99, e57_102, e57_103, e57_105, e57_106, e57_107, e57_110, e57_113, e57_114, e57_117, e57_119, e57_122, e57_123, e57_124, e57_127, e57_128, e57_129, e57_132, zU_app, zbI_some, zbV_some, Int.reduceToNat, Int.reduceLE, Int.reduceLT, Int.reduceEq, Nat.reduceEqDiff, and_self, and_true, true_and, and_false, false_and, if_true, if_false, ne_eq, not_true_eq_false, not_false_eq_true, reduceCtorEq, eq_self, true_or, or_true, or_false, false_or, zbR_some, hg, hT.1, ks, k_isBlank, z1]
    rw [if_neg (by omega), skB]
    by_cases q : b a = 32 ∨ b a = 10
    · rw [zb_t q, if_neg (by decide), if_pos q]
      have hf : Fr sAd g (zU g 9 0 4 ((a + 1 : Nat) : Int)) := Fr.u (by unfold sAd; omega)
      rw [ih (a + 1) _ (by omega) (hT.ad hf) rfl, zU_zU]
    · rw [zb_f q, if_pos rfl, if_neg q, zU_self hg]
theorem k_rwL (d T : Nat) (b : Nat → Int) : ∀ (m a : Nat) (g : zG), a + m = T → TpAt g b T → g 9 0 4 = (a : Int) → Ev (d + 6) 61 0 [some (.inr (9, 0))] [] g = Ev (d + 6) 61 38 [some (.inr (9, 0))] [] (zU g 9 0 4 (skL b m a : Int)) := by
  intro m
  induction m with
  | zero =>
    intro a g ha hT hg
    rw [show zU g 9 0 4 (skL b 0 a : Int) = g from zU_self hg, e61_0]
    simp (disch := omega) only [e61_1, e61_4, e61_5, e61_8, e61_11, e61_12, e61_13, e61_16, e61_19, e61_22, e61_25, e61_26, e61_27, e61_30, e61_31, e61_32, e61_35, e61_39, e61_40, e61_43, e61_46, zU_app, zbI_some, zbV_some, Int.reduceToNat, Int.reduceLE, Int.reduceLT, Int.reduceEq, Nat.reduceEqDiff, and_self, and_true, true_and, and_false, false_and, if_true, if_false, ne_eq, not_true_eq_false, not_false_eq_true, reduceCtorEq, eq_self, true_or, or_true, or_false, false_or, zbR_some, zwr_id, if_pos, if_neg, hg, hT.1]
  | succ m ih =>
    intro a g ha hT hg
    have hT4 := hT.2.1
    have ks := k_sign (d + 5) a T b g hT
    rw [if_pos (by omega)] at ks
    have z1 : zwr ((a : Int) + 1) = ((a + 1 : Nat) : Int) := by rw [zwr_id (by omega) (by omega)]; omega
    rw [e61_0]
    simp only [e61_1, e61_4, e61_5, e61_8, e61_11, e61_12, e61_13, e61_16, e61_19, e61_22, e61_25, e61_26, e61_27, e61_30, e61_31, e61_32, e61_35, e61_39, e61_40, e61_43, e61_46, zU_app, zbI_some, zbV_some, Int.reduceToNat, Int.reduceLE, Int.reduceLT, Int.reduceEq, Nat.reduceEqDiff, and_self, and_true, true_and, and_false, false_and, if_true, if_false, ne_eq, not_true_eq_false, not_false_eq_true, reduceCtorEq, eq_self, true_or, or_true, or_false, false_or, zbR_some, hg, hT.1, ks, k_isLetter, z1, zbo_if]
    rw [if_neg (by omega), skL]
    by_cases q : isL (b a) = true
    · rw [if_pos q, if_pos q]
      have hf : Fr sAd g (zU g 9 0 4 ((a + 1 : Nat) : Int)) := Fr.u (by unfold sAd; omega)
      rw [ih (a + 1) _ (by omega) (hT.ad hf) rfl, zU_zU]
    · rw [if_neg q, if_neg q, zU_self hg]
theorem k_rnL (d T ta : Nat) (b : Nat → Int) : ∀ (m a : Nat) (v x : Int) (g : zG), a + m = T → TpAt g b T → g 9 0 4 = (a : Int) → g 9 0 2 = x → (a ≤ ta + 4 → x = v) → DvOk ta a v → ∃ y, Ev (d + 6) 76 5 [some (.inr (9, 0))] [] g = Ev (d + 6) 76 66 [some (.inr (9, 0))] [] (zU (zU g 9 0 4 (skD b m a : Int)) 9 0 2 y) ∧ (skD b m a ≤ ta + 4 → y = dvS b ta m a v) := by
  intro m
  induction m with
  | zero =>
    intro a v x g ha hT hg hx hv hD
    refine ⟨x, ?_, hv⟩
    rw [show zU g 9 0 4 (skD b 0 a : Int) = g from zU_self hg, zU_self hx, e76_5]
    simp (disch := omega) only [e76_0, e76_1, e76_2, e76_6, e76_9, e76_10, e76_13, e76_16, e76_17, e76_18, e76_21, e76_24, e76_27, e76_30, e76_31, e76_32, e76_35, e76_37, e76_38, e76_39, e76_40, e76_43, e76_46, e76_47, e76_49, e76_50, e76_53, e76_54, e76_55, e76_58, e76_59, e76_60, e76_63, e76_67, e76_68, e76_71, e76_72, e76_75, e76_76, e76_77, e76_80, e76_82, e76_85, e76_87, e76_90, zU_app, zbI_some, zbV_some, Int.reduceToNat, Int.reduceLE, Int.reduceLT, Int.reduceEq, Nat.reduceEqDiff, and_self, and_true, true_and, and_false, false_and, if_true, if_false, ne_eq, not_true_eq_false, not_false_eq_true, reduceCtorEq, eq_self, true_or, or_true, or_false, false_or, zbR_some, zwr_id, if_pos, if_neg, hg, hT.1]
  | succ m ih =>
    intro a v x g ha hT hg hx hv hD
    have hT4 := hT.2.1
    have ks := k_sign (d + 5) a T b g hT
    rw [if_pos (by omega)] at ks
    have z1 : zwr ((a : Int) + 1) = ((a + 1 : Nat) : Int) := by rw [zwr_id (by omega) (by omega)]; omega
    by_cases q : isD (b a) = true
    · have hc := isD_rng q
      let x' : Int := zwr (zwr (zwr (x * 10) + b a) - 48)
      have hD' := hD.on hc
      have hx' : a + 1 ≤ ta + 4 → x' = (if a < ta + 4 then 10 * v + b a - 48 else v) := by
        intro h4
        have e := hv (by omega)
        obtain ⟨d0, d1, d2, d3, d4, d5, d6⟩ := hD
        have := d6 (by omega)
        show zwr (zwr (zwr (x * 10) + b a) - 48) = _
        rw [if_pos (by omega), e, zwr_id (x := v * 10) (by omega) (by omega), zwr_id (x := v * 10 + b a) (by omega) (by omega), zwr_id (by omega) (by omega)]
        omega
      have hf : Fr sAd g (zU (zU g 9 0 2 x') 9 0 4 ((a + 1 : Nat) : Int)) := (Fr.u (by unfold sAd; omega)).tr (Fr.u (by unfold sAd; omega))
      obtain ⟨y, e1, h1⟩ := ih (a + 1) (if a < ta + 4 then 10 * v + b a - 48 else v) x' (zU (zU g 9 0 2 x') 9 0 4 ((a + 1 : Nat) : Int)) (by omega) (hT.ad hf) rfl rfl hx' hD'
      refine ⟨y, ?_, ?_⟩
      · rw [e76_5]
        simp only [e76_0, e76_1, e76_2, e76_6, e76_9, e76_10, e76_13, e76_16, e76_17, e76_18, e76_21, e76_24, e76_27, e76_30, e76_31, e76_32, e76_35, e76_37, e76_38, e76_39, e76_40, e76_43, e76_46, e76_47, e76_49, e76_50, e76_53, e76_54, e76_55, e76_58, e76_59, e76_60, e76_63, e76_67, e76_68, e76_71, e76_72, e76_75, e76_76, e76_77, e76_80, e76_82, e76_85, e76_87, e76_90, zU_app, zbI_some, zbV_some, Int.reduceToNat, Int.reduceLE, Int.reduceLT, Int.reduceEq, Nat.reduceEqDiff, and_self, and_true, true_and, and_false, false_and, if_true, if_false, ne_eq, not_true_eq_false, not_false_eq_true, reduceCtorEq, eq_self, true_or, or_true, or_false, false_or, zbR_some, hg, hT.1, ks, k_isDigit, z1, zbo_if, hx]
        rw [if_neg (by omega), skD, if_pos q, if_pos q, e1]
        congr 1
        funext k j i
        simp only [zU_app]
        by_cases w1 : k = 9 ∧ j = 0 ∧ i = 2
        · simp [w1]
        · by_cases w2 : k = 9 ∧ j = 0 ∧ i = 4
          · simp [w2]
          · simp [w1, w2]
      · rw [skD, dvS, if_pos q, if_pos q]
        exact h1
    · refine ⟨x, ?_, ?_⟩
      · rw [e76_5]
        simp only [e76_0, e76_1, e76_2, e76_6, e76_9, e76_10, e76_13, e76_16, e76_17, e76_18, e76_21, e76_24, e76_27, e76_30, e76_31, e76_32, e76_35, e76_37, e76_38, e76_39, e76_40, e76_43, e76_46, e76_47, e76_49, e76_50, e76_53, e76_54, e76_55, e76_58, e76_59, e76_60, e76_63, e76_67, e76_68, e76_71, e76_72, e76_75, e76_76, e76_77, e76_80, e76_82, e76_85, e76_87, e76_90, zU_app, zbI_some, zbV_some, Int.reduceToNat, Int.reduceLE, Int.reduceLT, Int.reduceEq, Nat.reduceEqDiff, and_self, and_true, true_and, and_false, false_and, if_true, if_false, ne_eq, not_true_eq_false, not_false_eq_true, reduceCtorEq, eq_self, true_or, or_true, or_false, false_or, zbR_some, hg, hT.1, ks, k_isDigit, z1, zbo_if]
        rw [if_neg (by omega), skD, if_neg q, if_neg q, zU_self hg, zU_self hx]
      · rw [skD, dvS, if_neg q, if_neg q]
        intro h; exact hv h
