/-! THE CLASS: a rule more; third -/
theorem clr_bit (a : Nat) {r : Nat} (hr : r < 31) (ha : a < 2147483648) (i : Nat) : (a &&& (2147483647 - 2 ^ r)).testBit i = (a.testBit i && decide (i ≠ r)) := by
  have h2 : 2 ^ r < 2 ^ 31 := Nat.pow_lt_pow_right (by decide) hr
  have e : 2147483647 - 2 ^ r = 2 ^ 31 - (2 ^ r + 1) := by
    have : (2 : Nat) ^ 31 = 2147483648 := by decide
    omega
  rw [Nat.testBit_and, e, Nat.testBit_two_pow_sub_succ h2, Nat.testBit_two_pow]
  by_cases hi : i < 31
  · rw [decide_eq_true hi, Bool.true_and]
    by_cases q : r = i
    · subst q; simp
    · simp [q, Ne.symm q]
  · have : a.testBit i = false := Nat.testBit_lt_two_pow (Nat.lt_of_lt_of_le ha (by
      have : 2 ^ 31 ≤ 2 ^ i := Nat.pow_le_pow_right (by decide) (by omega)
      omega))
    rw [this, Bool.false_and, Bool.false_and]
theorem mk_or {P P' : Nat → Bool} {n r : Nat} (hr : r < n) (h : ∀ i, i < n → P' i = (P i || decide (i = r))) : mk P n ||| 2 ^ r = mk P' n := by
  apply Nat.eq_of_testBit_eq
  intro i
  rw [Nat.testBit_or, mk_bit, mk_bit, Nat.testBit_two_pow]
  by_cases hi : i < n
  · rw [h i hi, decide_eq_true hi, Bool.true_and, Bool.true_and]
    by_cases q : i = r
    · subst q; simp
    · simp [q, Ne.symm q]
  · rw [decide_eq_false hi]
    simp [show r ≠ i by omega]
theorem mk_clr {P P' : Nat → Bool} {n r : Nat} (hn : n ≤ 7) (hr : r < 31) (h : ∀ i, i < n → P' i = (P i && decide (i ≠ r))) : mk P n &&& (2147483647 - 2 ^ r) = mk P' n := by
  apply Nat.eq_of_testBit_eq
  intro i
  have := mk128 P hn
  rw [clr_bit _ hr (by omega), mk_bit, mk_bit]
  by_cases hi : i < n
  · rw [h i hi, decide_eq_true hi, Bool.true_and, Bool.true_and]
  · rw [decide_eq_false hi, Bool.false_and, Bool.false_and, Bool.false_and]
theorem wT_nr {w : Nat → Int} (hX : RuX w) (so nu tu : Int) : nR (wT w so nu tu) = nR w + 1 := by
  have := hX.1
  unfold nR
  rw [wT_18]
  omega
theorem wT_old {w : Nat → Int} {so nu tu : Int} {r f : Nat} (hr : r < nR w) (hf : f < 4) : wT w so nu tu (40 + 4 * r + f) = w (40 + 4 * r + f) := wT_ne (by omega) (by omega)
theorem wT_new {w : Nat → Int} (so nu tu : Int) : wT w so nu tu (40 + 4 * nR w) = so ∧ wT w so nu tu (40 + 4 * nR w + 1) = nu ∧ wT w so nu tu (40 + 4 * nR w + 2) = tu ∧ wT w so nu tu (40 + 4 * nR w + 3) = 1 := by
  unfold wT wRu
  refine ⟨?_, ?_, ?_, ?_⟩
  · rw [uW_ne (by omega), uW_ne (by omega), uW_ne (by omega), uW_ne (by omega)]; exact uW_eq _ _ _
  · rw [uW_ne (by omega), uW_ne (by omega), uW_ne (by omega), uW_eq]
  · rw [uW_ne (by omega), uW_ne (by omega), uW_eq]
  · rw [uW_ne (by omega), uW_eq]
theorem RuX.tw {w : Nat → Int} {so nu tu : Int} (h : RuX w) (h6 : w 18 ≤ 6) (hc : cR so nu tu) : RuX (wT w so nu tu) := by
  refine ⟨by rw [wT_18]; have := h.1; omega, fun r hr => ?_⟩
  rw [wT_nr h] at hr
  by_cases e : r = nR w
  · subst e
    obtain ⟨n1, n2, n3, n4⟩ := wT_new (w := w) so nu tu
    rw [n1, n2, n3, n4]
    exact ⟨hc, Or.inr rfl⟩
  · have hr' : r < nR w := by omega
    rw [show wT w so nu tu (40 + 4 * r) = w (40 + 4 * r) from wT_old (f := 0) hr' (by decide), wT_old hr' (by decide), wT_old hr' (by decide), wT_old hr' (by decide)]
    exact h.2 r hr'
theorem mk_on_tw {w : Nat → Int} (so nu tu : Int) : mk (onB (wT w so nu tu)) (nR w + 1) = mk (onB w) (nR w) + 2 ^ nR w := by
  rw [mk, mk_cong (P := onB (wT w so nu tu)) (Q := onB w) (fun r hr => by unfold onB; rw [wT_old hr (by decide)])]
  rw [if_pos (by unfold onB; rw [(wT_new so nu tu).2.2.2]; rfl)]
theorem mk_tu_tw {w : Nat → Int} (so nu tu t : Int) : mk (tuB (wT w so nu tu) t) (nR w + 1) = mk (tuB w t) (nR w) + if tu = t then 2 ^ nR w else 0 := by
  rw [mk, mk_cong (P := tuB (wT w so nu tu) t) (Q := tuB w t) (fun r hr => by unfold tuB; rw [wT_old hr (by decide)])]
  unfold tuB
  rw [(wT_new so nu tu).2.2.1]
  by_cases h : tu = t
  · rw [if_pos h, if_pos (decide_eq_true h)]
  · rw [if_neg h, if_neg (by simp [h])]
def sRu (j : Nat) : Nat → Nat → Nat → Prop := fun k a _ => (k = 6 ∨ k = 32 ∨ k = 33 ∨ k = 34) ∧ a = j
set_option maxHeartbeats 1000000 in
theorem k_append {w : Nat → Int} (d j : Nat) (so nu tu : Int) (g : zG) (hA : RuAt g j w) (hX : RuX w) (h6 : w 18 ≤ 6) (hc : cR so nu tu) : ∃ g', EvM d 23 [.inr (6, j), .inl so, .inl nu, .inl tu] g = some (some (.inl (w 18)), g') ∧ RuAt g' j (wT w so nu tu) ∧ Fr (sRu j) g g' := by
  obtain ⟨a0, a1, a2, a3, a4⟩ := hA
  obtain ⟨n1, n2⟩ := hX.nr
  have n6 : nR w ≤ 6 := by omega
  have hm0 := mk_lt (onB w) (nR w)
  have hm1 := mk_lt (tuB w 1) (nR w)
  have hm2 := mk_lt (tuB w 2) (nR w)
  have h128 : 2 ^ nR w ≤ 2 ^ 7 := Nat.pow_le_pow_right (by decide) (by omega)
  have o0 : zor (mk (onB w) (nR w) : Int) ((2 ^ nR w : Nat) : Int) = (mk (onB (wT w so nu tu)) (nR w + 1) : Int) := by
    rw [zor_nat (by omega) (by omega), or_pow hm0, mk_on_tw]
  have oT : ∀ t : Int, (if tu = t then zor (mk (tuB w t) (nR w) : Int) ((2 ^ nR w : Nat) : Int) else zand (mk (tuB w t) (nR w) : Int) (zxor ((2 ^ nR w : Nat) : Int) (-1))) = (mk (tuB (wT w so nu tu) t) (nR w + 1) : Int) := by
    intro t
    have hm := mk_lt (tuB w t) (nR w)
    rw [mk_tu_tw]
    by_cases h : tu = t
    · rw [if_pos h, if_pos h, zor_nat (by omega) (by omega), or_pow hm]
    · rw [if_neg h, if_neg h, zxor_m1 _ (by omega) (by omega), Nat.add_zero]
      congr 1
      exact mk_clr n2 (by omega) (fun i hi => by simp [show i ≠ nR w by omega])
  have sh : zshl 1 ((nR w : Nat) : Int) = ((2 ^ nR w : Nat) : Int) := zshl1 _ (by omega)
  let g3 := zU (zU (zU g 32 j (nR w) so) 33 j (nR w) nu) 34 j (nR w) tu
  let g' := zU (zU (zU (zU g3 6 j 4 (mk (onB (wT w so nu tu)) (nR w + 1) : Int)) 6 j 5 (mk (tuB (wT w so nu tu) 1) (nR w + 1) : Int)) 6 j 6 (mk (tuB (wT w so nu tu) 2) (nR w + 1) : Int)) 6 j 0 (w 18 + 1)
  refine ⟨g', ?_, ⟨?_, ?_, ?_, ?_, ?_⟩, ?_⟩
  · have z18 : zwr (w 18 + 1) = w 18 + 1 := zwr_id (by omega) (by omega)
    have t1 := oT 1
    have t2 := oT 2
    have mid : EvM d 23 [.inr (6, j), .inl so, .inl nu, .inl tu] g = Ev d 23 86 [some (.inr (6, j)), some (.inl so), some (.inl nu), some (.inl tu), some (.inl (w 18)), some (.inl ((2 ^ nR w : Nat) : Int))] [] (zU (zU g3 6 j 4 (mk (onB (wT w so nu tu)) (nR w + 1) : Int)) 6 j 5 (mk (tuB (wT w so nu tu) 1) (nR w + 1) : Int)) := by
      rw [en23]
      simp only [e23_0, e23_1, e23_4, e23_6, e23_9, e23_10, e23_11, e23_12, e23_15, e23_17, e23_18, e23_20, e23_21, e23_23, e23_24, e23_27, e23_29, e23_30, e23_31, e23_32, e23_35, e23_37, e23_38, e23_39, e23_40, e23_43, e23_45, e23_46, e23_47, e23_48, e23_49, e23_52, e23_54, e23_55, e23_58, e23_59, e23_60, e23_61, e23_64, e23_65, e23_68, e23_70, e23_71, e23_74, e23_75, e23_78, e23_80, e23_81, e23_82, e23_83, e23_87, e23_88, e23_89, e23_92, e23_93, e23_96, e23_98, e23_99, e23_102, e23_103, e23_106, e23_108, e23_109, e23_110, e23_111, e23_114, e23_115, e23_116, e23_119, e23_120, e23_121, e23_124, e23_126, zU_app, zbI_some, zbV_some, Int.reduceToNat, Int.reduceLE, Int.reduceLT, Int.reduceEq, Nat.reduceEqDiff, and_self, and_true, true_and, and_false, false_and, if_true, if_false, ne_eq, not_true_eq_false, not_false_eq_true, reduceCtorEq, eq_self, true_or, or_true, or_false, false_or, zbR_some, a0, ← n1, sh, Int.toNat_natCast, a2, a3, o0]
      rw [if_pos (by omega), if_pos (by omega), if_pos (by omega), if_pos (by omega)]
      rw [← t1]
      by_cases h : tu = 1
      · rw [if_neg (by omega), if_pos h]
      · rw [if_pos h, if_neg h]
    rw [mid]
    simp only [e23_0, e23_1, e23_4, e23_6, e23_9, e23_10, e23_11, e23_12, e23_15, e23_17, e23_18, e23_20, e23_21, e23_23, e23_24, e23_27, e23_29, e23_30, e23_31, e23_32, e23_35, e23_37, e23_38, e23_39, e23_40, e23_43, e23_45, e23_46, e23_47, e23_48, e23_49, e23_52, e23_54, e23_55, e23_58, e23_59, e23_60, e23_61, e23_64, e23_65, e23_68, e23_70, e23_71, e23_74, e23_75, e23_78, e23_80, e23_81, e23_82, e23_83, e23_86, e23_87, e23_88, e23_89, e23_92, e23_93, e23_96, e23_98, e23_99, e23_102, e23_103, e23_106, e23_108, e23_109, e23_110, e23_111, e23_114, e23_115, e23_116, e23_119, e23_120, e23_121, e23_124, e23_126, zU_app, zbI_some, zbV_some, Int.reduceToNat, Int.reduceLE, Int.reduceLT, Int.reduceEq, Nat.reduceEqDiff, and_self, and_true, true_and, and_false, false_and, if_true, if_false, ne_eq, not_true_eq_false, not_false_eq_true, reduceCtorEq, eq_self, true_or, or_true, or_false, false_or, zbR_some, g3, a0, a4, z18]
    show _ = some (some (Sum.inl (w 18)), zU (zU (zU (zU g3 6 j 4 (mk (onB (wT w so nu tu)) (nR w + 1) : Int)) 6 j 5 (mk (tuB (wT w so nu tu) 1) (nR w + 1) : Int)) 6 j 6 (mk (tuB (wT w so nu tu) 2) (nR w + 1) : Int)) 6 j 0 (w 18 + 1))
    rw [← t2]
    by_cases h : tu = 2
    · rw [if_neg (by omega), if_pos h]
    · rw [if_pos h, if_neg h]
  · rw [wT_18]; exact zU_eq _ _ _ _ _
  · intro r hr
    rw [wT_nr hX] at hr
    by_cases e : r = nR w
    · subst e
      obtain ⟨q1, q2, q3, q4⟩ := wT_new (w := w) so nu tu
      rw [q1, q2, q3]
      refine ⟨?_, ?_, ?_⟩ <;> simp [g', g3, zU_app]
    · have hr' : r < nR w := by omega
      obtain ⟨b0, b1, b2⟩ := a1 r hr'
      rw [show wT w so nu tu (40 + 4 * r) = w (40 + 4 * r) from wT_old (f := 0) hr' (by decide), wT_old hr' (by decide), wT_old hr' (by decide)]
      refine ⟨?_, ?_, ?_⟩
      · simp [g', g3, zU_app, e, b0]
      · simp [g', g3, zU_app, e, b1]
      · simp [g', g3, zU_app, e, b2]
  · rw [wT_nr hX]; simp [g', zU_app]
  · rw [wT_nr hX]; simp [g', zU_app]
  · rw [wT_nr hX]; simp [g', zU_app]
  · exact ((((((Fr.u (by unfold sRu; omega)).tr (Fr.u (by unfold sRu; omega))).tr (Fr.u (by unfold sRu; omega))).tr (Fr.u (by unfold sRu; omega))).tr (Fr.u (by unfold sRu; omega))).tr (Fr.u (by unfold sRu; omega))).tr (Fr.u (by unfold sRu; omega))
theorem acU_app (g : zG) (k i j n k' a b : Nat) : acU g k i j n k' a b = if k' = k ∧ a = i ∧ b < n then g k j b else g k' a b := rfl
theorem acU_fr {S : Nat → Nat → Nat → Prop} {g : zG} {k i j n : Nat} (h : ∀ b, S k i b) : Fr S g (acU g k i j n) := fun k' a b hn => by
  rw [acU_app, if_neg (fun q => hn (by obtain ⟨rfl, rfl, -⟩ := q; exact h b))]
theorem k_rcopy (d i j : Nat) (g : zG) (hij : ¬ j = i) : ∃ g', EvM (d + 1) 224 [.inr (6, i), .inr (6, j)] g = some (none, g') ∧ (∀ x, x < 7 → (x = 0 ∨ 4 ≤ x → g' 6 i x = g 6 j x) ∧ g' 32 i x = g 32 j x ∧ g' 33 i x = g 33 j x ∧ g' 34 i x = g 34 j x) ∧ Fr (sRu i) g g' := by
  have c32 : ∀ d g, EvM d 999 [.inr (32, j), .inl 0, .inr (32, i), .inl 0, .inl 7] g = some (none, acU g 32 i j 7) := fun d g => k_ac d 32 i j 7 7 7 g (by decide) rfl (by decide)
  have c33 : ∀ d g, EvM d 999 [.inr (33, j), .inl 0, .inr (33, i), .inl 0, .inl 7] g = some (none, acU g 33 i j 7) := fun d g => k_ac d 33 i j 7 7 7 g (by decide) rfl (by decide)
  have c34 : ∀ d g, EvM d 999 [.inr (34, j), .inl 0, .inr (34, i), .inl 0, .inl 7] g = some (none, acU g 34 i j 7) := fun d g => k_ac d 34 i j 7 7 7 g (by decide) rfl (by decide)
  let g1 := zU g 6 i 0 (g 6 j 0)
  let g4 := acU (acU (acU g1 32 i j 7) 33 i j 7) 34 i j 7
  refine ⟨zU (zU (zU g4 6 i 4 (g 6 j 4)) 6 i 5 (g 6 j 5)) 6 i 6 (g 6 j 6), ?_, ?_, ?_⟩
  · rw [en224]
    simp only [e224_0, e224_1, e224_2, e224_5, e224_8, e224_9, e224_12, e224_13, e224_14, e224_17, e224_18, e224_20, e224_23, e224_24, e224_27, e224_28, e224_29, e224_32, e224_33, e224_35, e224_38, e224_39, e224_42, e224_43, e224_44, e224_47, e224_48, e224_50, e224_53, e224_54, e224_55, e224_58, e224_61, e224_62, e224_63, e224_66, e224_69, e224_70, e224_71, e224_74, e224_77, zU_app, zbI_some, zbV_some, Int.reduceToNat, Int.reduceLE, Int.reduceLT, Int.reduceEq, Nat.reduceEqDiff, and_self, and_true, true_and, and_false, false_and, if_true, if_false, ne_eq, not_true_eq_false, not_false_eq_true, reduceCtorEq, eq_self, true_or, or_true, or_false, false_or, zbR_some, c32, c33, c34, acU_app, hij]
    rfl
  · intro x hx
    refine ⟨fun h => ?_, ?_, ?_, ?_⟩
    · rcases (show x = 0 ∨ x = 4 ∨ x = 5 ∨ x = 6 by omega) with rfl | rfl | rfl | rfl <;> simp [zU_app, g4, g1, acU_app]
    · simp [zU_app, g4, g1, acU_app, hx]
    · simp [zU_app, g4, g1, acU_app, hx]
    · simp [zU_app, g4, g1, acU_app, hx]
  · exact ((((((Fr.u (by unfold sRu; omega)).tr (acU_fr (fun b => by unfold sRu; omega))).tr (acU_fr (fun b => by unfold sRu; omega))).tr (acU_fr (fun b => by unfold sRu; omega))).tr (Fr.u (by unfold sRu; omega))).tr (Fr.u (by unfold sRu; omega))).tr (Fr.u (by unfold sRu; omega))
theorem RuAt.cp {g g' : zG} {i j : Nat} {w : Nat → Int} (hX : RuX w) (h : RuAt g j w) (e : ∀ x, x < 7 → (x = 0 ∨ 4 ≤ x → g' 6 i x = g 6 j x) ∧ g' 32 i x = g 32 j x ∧ g' 33 i x = g 33 j x ∧ g' 34 i x = g 34 j x) : RuAt g' i w := by
  obtain ⟨a0, a1, a2, a3, a4⟩ := h
  refine ⟨by rw [(e 0 (by decide)).1 (by decide)]; exact a0, fun r hr => ?_, by rw [(e 4 (by decide)).1 (by decide)]; exact a2, by rw [(e 5 (by decide)).1 (by decide)]; exact a3, by rw [(e 6 (by decide)).1 (by decide)]; exact a4⟩
  have := hX.nr.2
  obtain ⟨-, e1, e2, e3⟩ := e r (by omega)
  rw [e1, e2, e3]
  exact a1 r hr
theorem k_canBeRule (d : Nat) (so nu tu : Int) (g : zG) : ∃ r : Int, EvM d 22 [.inl so, .inl nu, .inl tu] g = some (some (.inl r), g) ∧ (r = 1 ∧ cR so nu tu ∨ r = 0 ∧ ¬ cR so nu tu) := by
  rw [en22]
  simp only [e22_0, e22_1, e22_4, e22_5, e22_6, e22_9, e22_10, e22_11, e22_12, e22_15, e22_16, e22_19, e22_20, e22_22, e22_25, e22_26, e22_29, e22_30, e22_31, e22_32, e22_33, e22_36, e22_37, e22_38, e22_41, e22_42, e22_44, e22_47, e22_48, e22_51, e22_52, zU_app, zbI_some, zbV_some, Int.reduceToNat, Int.reduceLE, Int.reduceLT, Int.reduceEq, Nat.reduceEqDiff, and_self, and_true, true_and, and_false, false_and, if_true, if_false, ne_eq, not_true_eq_false, not_false_eq_true, reduceCtorEq, eq_self, true_or, or_true, or_false, false_or, zbR_some]
  unfold cR
  by_cases h1 : tu < 0
  · exact ⟨0, by rw [if_pos h1], Or.inr ⟨rfl, by omega⟩⟩
  · by_cases h2 : tu ≤ 2
    · by_cases h3 : so = 0
      · by_cases h4 : nu < 0
        · exact ⟨0, by rw [if_neg h1, if_pos h2, if_neg (by omega), if_pos h4], Or.inr ⟨rfl, by omega⟩⟩
        · by_cases h5 : 9 < nu
          · exact ⟨0, by rw [if_neg h1, if_pos h2, if_neg (by omega), if_neg h4, if_pos h5], Or.inr ⟨rfl, by omega⟩⟩
          · exact ⟨1, by rw [if_neg h1, if_pos h2, if_neg (by omega), if_neg h4, if_neg h5], Or.inl ⟨rfl, by omega⟩⟩
      · by_cases h4 : so = 1
        · by_cases h5 : nu < 2
          · exact ⟨0, by rw [if_neg h1, if_pos h2, if_pos h3, if_neg (by omega), if_pos h5], Or.inr ⟨rfl, by omega⟩⟩
          · by_cases h6 : 99 < nu
            · exact ⟨0, by rw [if_neg h1, if_pos h2, if_pos h3, if_neg (by omega), if_neg h5, if_pos h6], Or.inr ⟨rfl, by omega⟩⟩
            · exact ⟨1, by rw [if_neg h1, if_pos h2, if_pos h3, if_neg (by omega), if_neg h5, if_neg h6], Or.inl ⟨rfl, by omega⟩⟩
        · exact ⟨0, by rw [if_neg h1, if_pos h2, if_pos h3, if_pos h4], Or.inr ⟨rfl, by omega⟩⟩
    · exact ⟨0, by rw [if_neg h1, if_neg h2], Or.inr ⟨rfl, by omega⟩⟩
theorem k_oneMore {w : Nat → Int} (d : Nat) (so nu tu : Int) (g : zG) (hA : RuAt g 0 w) (hX : RuX w) (h6 : w 18 ≤ 6) (hc : cR so nu tu) : ∃ g', EvM (d + 2) 223 [.inr (10, 0), .inr (6, 0), .inl so, .inl nu, .inl tu] g = some (some (.inr (6, 2)), g') ∧ RuAt g' 2 (wT w so nu tu) ∧ Fr (sRu 2) g g' := by
  obtain ⟨g1, e1, h1, f1⟩ := k_rcopy d 2 0 g (by decide)
  obtain ⟨g2, e2, h2, f2⟩ := k_append (d + 1) 2 so nu tu g1 (hA.cp hX h1) hX h6 hc
  refine ⟨g2, ?_, h2, f1.tr f2⟩
  rw [en223]
  simp only [e223_0, e223_1, e223_4, e223_5, e223_8, e223_9, e223_12, e223_13, e223_14, e223_16, e223_19, e223_20, e223_21, e223_24, zU_app, zbI_some, zbV_some, Int.reduceToNat, Int.reduceLE, Int.reduceLT, Int.reduceEq, Nat.reduceEqDiff, and_self, and_true, true_and, and_false, false_and, if_true, if_false, ne_eq, not_true_eq_false, not_false_eq_true, reduceCtorEq, eq_self, true_or, or_true, or_false, false_or, zbR_some, e1, e2]
def sTt3 : Nat → Nat → Nat → Prop := fun k a i => sTt k a i ∨ sRu 2 k a i
theorem LwAt.cg {w w' : Nat → Int} {ls : List (List (Int × Int) × List (Int × Int))} (h : LwAt w ls) (hw : ∀ i, 480 ≤ i → w' i = w i) : LwAt w' ls := by
  obtain ⟨h1, h2, h3⟩ := h
  refine ⟨by rw [hw 485 (by omega)]; exact h1, fun k hk => ?_, fun i hi => ?_⟩
  · rw [hw _ (by omega), hw _ (by omega), hw _ (by omega)]
    exact h2 k hk
  · rw [hw _ (by omega), hw _ (by omega)]
    exact h3 i hi
theorem TbAt.cg {g : zG} {j : Nat} {w w' : Nat → Int} (h : TbAt g j w) (h17 : w' 17 = w 17) (hw : ∀ i, (9 ≤ i ∧ i < 17) ∨ (20 ≤ i ∧ i < 36) → w' i = w i) (h8 : w 17 ≤ 8) : TbAt g j w' := by
  refine ⟨by rw [h17]; exact h.1, fun p hp => ?_⟩
  rw [h17] at hp
  rw [hw (20 + p) (by omega), hw (9 + p) (by omega), hw (28 + p) (by omega)]
  exact h.2 p hp
theorem CoAt.cg {g : zG} {j : Nat} {w w' : Nat → Int} (h : CoAt g j w) (hw : ∀ i, i < 9 → i ≠ 6 → w' i = w i) : CoAt g j w' := by
  unfold CoAt
  rw [hw 0 (by decide) (by decide), hw 1 (by decide) (by decide), hw 2 (by decide) (by decide), hw 3 (by decide) (by decide), hw 4 (by decide) (by decide), hw 5 (by decide) (by decide), hw 7 (by decide) (by decide), hw 8 (by decide) (by decide)]
  exact h
theorem k_third {w : Nat → Int} {ls : List (List (Int × Int) × List (Int × Int))} (hK : WOk w ls) (d : Nat) (so nu tu x : Int) (g : zG) (h : RdAt g 0 w ls) : ∃ g', EvM (d + 6) 222 [.inr (11, 0), .inl so, .inl nu, .inl tu, .inl x] g = some (some (.inl (aThird w so nu tu x)), g') ∧ Fr sTt3 g g' := by
  obtain ⟨r, e0, hr⟩ := k_canBeRule (d + 5) so nu tu g
  have k1 := k_canCome (d + 5) x g h
  have hX := hK.2.1
  have h6 := hK.1.2.1
  unfold aThird
  rcases hr with ⟨rfl, hr⟩ | ⟨rfl, hr⟩
  · by_cases hc : 0 < w 17 ∧ w 0 ≤ x ∧ x ≤ 9999
    · obtain ⟨n, hn, ho⟩ := hK.cu hc.1
      obtain ⟨v, rfl⟩ : ∃ v : Nat, x = (v : Int) := ⟨x.toNat, by omega⟩
      obtain ⟨g1, e1, h1, f1⟩ := k_oneMore (d + 3) so nu tu g h.2.1 hX h6 hr
      have hnr := hX.nr
      have wn : ∀ i, i < 40 → i ≠ 18 → wT w so nu tu i = w i := fun i h1 h2 => wT_ne (by omega) h2
      have wh : ∀ i, 480 ≤ i → wT w so nu tu i = w i := fun i h1 => wT_ne (by omega) (by omega)
      have hP := hK.1.2.2.2.2.1 hc.1
      have hP' : PeOk (wT w so nu tu) := hP.cg (wn 17 (by decide) (by decide)) (fun i hi => wn _ (by omega) (by omega))
      have hC : Cx g1 2 (wT w so nu tu) ls := ⟨(h.1.on (fun k x q => f1 k 0 x (by unfold sRu; omega))).cg (wn 17 (by decide) (by decide)) (fun i hi => wn i (by omega) (by omega)) hP.2.1, h1, h.2.2.1.on (fun k x q => f1 k 0 x (by unfold sRu; omega)), by rw [f1 5 0 5 (by unfold sRu; omega), wn 19 (by decide) (by decide)]; exact h.2.2.2.1⟩
      have hco : CoAt g1 0 (wT w so nu tu) := (h.2.2.2.2.1.on (fun x => f1 1 0 x (by unfold sRu; omega))).cg (fun i h1 h2 => wn i (by omega) (by omega))
      have w0 : wT w so nu tu 0 = w 0 := wn 0 (by decide) (by decide)
      have w1 : wT w so nu tu 1 = w 1 := wn 1 (by decide) (by decide)
      have w2 : wT w so nu tu 2 = w 2 := wn 2 (by decide) (by decide)
      have w3 : wT w so nu tu 3 = w 3 := wn 3 (by decide) (by decide)
      obtain ⟨g2, e2, -, f2⟩ := k_chance (hX.tw h6 hr) hP' (hK.2.2.1.cg wh) hK.2.2.2 d 2 v n (by omega) (by omega) g1 hC (by rw [w0]; exact hn) hco (by rw [w1, w2]; unfold CuOk; rw [wn 17 (by decide) (by decide)]; exact ho)
      refine ⟨g2, ?_, (f1.up (fun k a i q => Or.inr q)).tr (f2.up (fun k a i q => Or.inl q))⟩
      rw [if_pos ⟨hr, hc⟩, en222]
      simp only [e222_0, e222_1, e222_2, e222_3, e222_6, e222_9, e222_10, e222_12, e222_15, e222_18, e222_19, e222_20, e222_21, e222_24, e222_25, e222_28, e222_29, e222_32, e222_33, e222_36, e222_39, e222_40, e222_41, e222_42, e222_45, e222_47, e222_50, zU_app, zbI_some, zbV_some, Int.reduceToNat, Int.reduceLE, Int.reduceLT, Int.reduceEq, Nat.reduceEqDiff, and_self, and_true, true_and, and_false, false_and, if_true, if_false, ne_eq, not_true_eq_false, not_false_eq_true, reduceCtorEq, eq_self, true_or, or_true, or_false, false_or, zbR_some, e0, k1, e1, e2]
      rw [zb_t hc, if_pos (by decide), w1, w2, w3, hn, Int.toNat_natCast, show ((v : Int) - (n : Int)).toNat = v - n by omega]
    · refine ⟨g, ?_, Fr.rf⟩
      rw [if_neg (fun q => hc q.2), en222]
      simp only [e222_0, e222_1, e222_2, e222_3, e222_6, e222_9, e222_10, e222_12, e222_15, e222_18, e222_19, e222_20, e222_21, e222_24, e222_25, e222_28, e222_29, e222_32, e222_33, e222_36, e222_39, e222_40, e222_41, e222_42, e222_45, e222_47, e222_50, zU_app, zbI_some, zbV_some, Int.reduceToNat, Int.reduceLE, Int.reduceLT, Int.reduceEq, Nat.reduceEqDiff, and_self, and_true, true_and, and_false, false_and, if_true, if_false, ne_eq, not_true_eq_false, not_false_eq_true, reduceCtorEq, eq_self, true_or, or_true, or_false, false_or, zbR_some, e0, k1]
      rw [zb_f hc, if_neg (by decide)]
  · refine ⟨g, ?_, Fr.rf⟩
    rw [if_neg (fun q => hr q.1), en222]
    simp only [e222_0, e222_1, e222_2, e222_3, e222_6, e222_9, e222_10, e222_12, e222_15, e222_18, e222_19, e222_20, e222_21, e222_24, e222_25, e222_28, e222_29, e222_32, e222_33, e222_36, e222_39, e222_40, e222_41, e222_42, e222_45, e222_47, e222_50, zU_app, zbI_some, zbV_some, Int.reduceToNat, Int.reduceLE, Int.reduceLT, Int.reduceEq, Nat.reduceEqDiff, and_self, and_true, true_and, and_false, false_and, if_true, if_false, ne_eq, not_true_eq_false, not_false_eq_true, reduceCtorEq, eq_self, true_or, or_true, or_false, false_or, zbR_some, e0]
