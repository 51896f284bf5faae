/-! the model's tokens -/
theorem m_see (d : Nat) (p : Nat) (T : Nat) (b : Nat → Int) (g : zG) (hb : g 51 0 = b) (hT : g 12 0 12 = (T : Int)) (h4 : T ≤ 400) : EvM d 113 [.inr (12, 0), .inl (p : Int)] g = some (some (.inl (if p < T then b p else -1)), g) := by
  rw [en113]
  simp only [e113_0, e113_1, e113_2, e113_5, e113_8, e113_9, e113_12, e113_13, e113_14, e113_17, e113_18, zU_app, zbI_some, zbV_some, Int.reduceToNat, Int.reduceLE, Int.reduceLT, Int.reduceEq, Nat.reduceEqDiff, and_self, and_true, true_and, and_false, false_and, if_true, if_false, ne_eq, not_true_eq_false, not_false_eq_true, reduceCtorEq, hT, hb]
  by_cases h : p < T
  · rw [if_neg (by omega), if_pos (by omega), if_pos h, Int.toNat_natCast]
  · rw [if_pos (by omega), if_neg h]
def isL (c : Int) : Bool := (decide (97 ≤ c) && decide (c ≤ 122)) || (decide (65 ≤ c) && decide (c ≤ 90))
def isD (c : Int) : Bool := decide (48 ≤ c) && decide (c ≤ 57)
def zbo (b : Bool) : Int := if b then 1 else 0
theorem m_isLetter (d : Nat) (c : Int) (g : zG) : EvM (d + 1) 114 [.inl c] g = some (some (.inl (zbo (isL c))), g) := by
  rw [en114]
  simp only [e114_0, e114_1, e114_3, e114_5, e114_8, e114_11, e114_12, e114_14, e114_16, e114_19, e114_22, e114_23, e114_26, e114_27, zU_app, zbI_some, zbV_some, Int.reduceToNat, Int.reduceLE, Int.reduceLT, Int.reduceEq, Nat.reduceEqDiff, and_self, and_true, true_and, and_false, false_and, if_true, if_false, ne_eq, not_true_eq_false, not_false_eq_true, reduceCtorEq, m_isIn]
  unfold isL zbo
  by_cases h1 : 97 ≤ c ∧ c ≤ 122
  · rw [zb_t h1, if_pos (by decide)]
    simp [h1.1, h1.2]
  · rw [zb_f h1, if_neg (by decide)]
    by_cases h2 : 65 ≤ c ∧ c ≤ 90
    · rw [zb_t h2, if_neg (by decide)]
      simp [h2.1, h2.2]
    · rw [zb_f h2, if_pos rfl]
      have e : ((decide (97 ≤ c) && decide (c ≤ 122)) || (decide (65 ≤ c) && decide (c ≤ 90))) = false := by simp; omega
      rw [e]
      simp
theorem m_isDigit (d : Nat) (c : Int) (g : zG) : EvM (d + 1) 118 [.inl c] g = some (some (.inl (zbo (isD c))), g) := by
  rw [en118]
  simp only [e118_0, e118_1, e118_3, e118_5, e118_8, zU_app, zbI_some, zbV_some, Int.reduceToNat, Int.reduceLE, Int.reduceLT, Int.reduceEq, Nat.reduceEqDiff, and_self, and_true, true_and, and_false, false_and, if_true, if_false, ne_eq, not_true_eq_false, not_false_eq_true, reduceCtorEq, m_isIn]
  unfold isD zbo
  by_cases h1 : 48 ≤ c ∧ c ≤ 57
  · rw [zb_t h1]
    simp [h1.1, h1.2]
  · have e : (decide (48 ≤ c) && decide (c ≤ 57)) = false := by simp; omega
    rw [zb_f h1, e]
    simp
/-- the letters from a place on are those -/
def spB (b : Nat → Int) : Nat → List Int → Bool
  | _, [] => true
  | a, c :: l => decide (b a = c) && spB b (a + 1) l
theorem m_isL0 (d j k : Nat) (g : zG) : Ev (d + 4) 116 24 [some (.inr (12, 0)), some (.inr (61, j)), some (.inl 0), some (.inl (k : Int))] [] g = some (some (.inl 0), g) := by
  rw [e116_24]
  simp only [e116_0, e116_1, e116_4, e116_5, e116_8, e116_9, e116_10, e116_13, e116_16, e116_17, e116_20, e116_21, e116_22, e116_23, e116_25, e116_26, e116_29, e116_32, e116_33, e116_36, e116_37, e116_40, e116_41, e116_44, e116_45, e116_46, e116_47, e116_48, e116_49, e116_52, e116_55, e116_56, e116_59, e116_60, e116_61, e116_64, e116_67, e116_68, zU_app, zbI_some, zbV_some, Int.reduceToNat, Int.reduceLE, Int.reduceLT, Int.reduceEq, Nat.reduceEqDiff, and_self, and_true, true_and, and_false, false_and, if_true, if_false, ne_eq, not_true_eq_false, not_false_eq_true, reduceCtorEq, j_length]
  simp
theorem m_isL1 (d j ta : Nat) (b : Nat → Int) (g : zG) (hb : g 51 0 = b) (hta : g 12 0 15 = (ta : Int)) (h4 : ta + (zt j).length ≤ 400) : ∀ (l : List Int) (k : Nat), (zt j).drop k = l → k ≤ (zt j).length → Ev (d + 4) 116 24 [some (.inr (12, 0)), some (.inr (61, j)), some (.inl 1), some (.inl (k : Int))] [] g = some (some (.inl (zbo (spB b (ta + k) l))), g) := by
  intro l
  induction l with
  | nil =>
    intro k hk hl
    have : (zt j).length ≤ k := by
      have := congrArg List.length hk
      rw [List.length_drop] at this
      simp at this
      omega
    rw [e116_24]
    simp only [e116_0, e116_1, e116_4, e116_5, e116_8, e116_9, e116_10, e116_13, e116_16, e116_17, e116_20, e116_21, e116_22, e116_23, e116_25, e116_26, e116_29, e116_32, e116_33, e116_36, e116_37, e116_40, e116_41, e116_44, e116_45, e116_46, e116_47, e116_48, e116_49, e116_52, e116_55, e116_56, e116_59, e116_60, e116_61, e116_64, e116_67, e116_68, zU_app, zbI_some, zbV_some, Int.reduceToNat, Int.reduceLE, Int.reduceLT, Int.reduceEq, Nat.reduceEqDiff, and_self, and_true, true_and, and_false, false_and, if_true, if_false, ne_eq, not_true_eq_false, not_false_eq_true, reduceCtorEq, j_length]
    rw [if_pos (by omega)]
    simp [zbo, spB]
  | cons c l ih =>
    intro k hk hl
    have hlt : k < (zt j).length := by
      have := congrArg List.length hk
      rw [List.length_drop] at this
      simp at this
      omega
    have hc : (zt j).getD k 0 = c := by
      have := congrArg (fun l => l.getD 0 0) hk
      simp only [List.getD_eq_getElem?_getD, List.getElem?_drop] at this
      rw [List.getD_eq_getElem?_getD]
      simpa using this
    have hd : (zt j).drop (k + 1) = l := by
      rw [← List.tail_drop, hk]; rfl
    rw [e116_24]
    simp only [e116_0, e116_1, e116_4, e116_5, e116_8, e116_9, e116_10, e116_13, e116_16, e116_17, e116_20, e116_21, e116_22, e116_23, e116_25, e116_26, e116_29, e116_32, e116_33, e116_36, e116_37, e116_40, e116_41, e116_44, e116_45, e116_46, e116_47, e116_48, e116_49, e116_52, e116_55, e116_56, e116_59, e116_60, e116_61, e116_64, e116_67, e116_68, zU_app, zbI_some, zbV_some, Int.reduceToNat, Int.reduceLE, Int.reduceLT, Int.reduceEq, Nat.reduceEqDiff, and_self, and_true, true_and, and_false, false_and, if_true, if_false, ne_eq, not_true_eq_false, not_false_eq_true, reduceCtorEq, j_length, hta, hb, j_charAt _ _ _ _ (show 0 ≤ (k : Int) ∧ (k : Int) < ((zt j).length : Int) by omega)]
    rw [if_neg (by omega), zwr_id (x := (ta : Int) + (k : Int)) (by omega) (by omega), if_pos (by omega), show ((ta : Int) + (k : Int)).toNat = ta + k by omega, Int.toNat_natCast, hc, spB, zwr_id (x := (k : Int) + 1) (by omega) (by omega), show (k : Int) + 1 = ((k + 1 : Nat) : Int) by omega]
    by_cases hq : b (ta + k) = c
    · rw [if_neg (fun z => z hq), decide_eq_true hq, Bool.true_and]
      exact ih (k + 1) hd (by omega)
    · rw [if_pos hq, decide_eq_false hq, Bool.false_and]
      exact m_isL0 d j (k + 1) g
def isW' (b : Nat → Int) (ta e j : Nat) : Bool := decide (e - ta = (zt j).length) && spB b ta (zt j)
theorem m_is (d j ta e : Nat) (b : Nat → Int) (g : zG) (hb : g 51 0 = b) (hta : g 12 0 15 = (ta : Int)) (he : g 12 0 13 = (e : Int)) (h4 : e ≤ 400) (hle : ta ≤ e) : EvM (d + 4) 116 [.inr (12, 0), .inr (61, j)] g = some (some (.inl (zbo (isW' b ta e j))), g) := by
  have hl := zt_len j
  unfold isW'
  rw [en116]
  simp only [e116_0, e116_1, e116_4, e116_5, e116_8, e116_9, e116_10, e116_13, e116_16, e116_17, e116_20, e116_21, e116_22, e116_23, e116_25, e116_26, e116_29, e116_32, e116_33, e116_36, e116_37, e116_40, e116_41, e116_44, e116_45, e116_46, e116_47, e116_48, e116_49, e116_52, e116_55, e116_56, e116_59, e116_60, e116_61, e116_64, e116_67, e116_68, zU_app, zbI_some, zbV_some, Int.reduceToNat, Int.reduceLE, Int.reduceLT, Int.reduceEq, Nat.reduceEqDiff, and_self, and_true, true_and, and_false, false_and, if_true, if_false, ne_eq, not_true_eq_false, not_false_eq_true, reduceCtorEq, j_length, hta, he]
  rw [zwr_id (by omega) (by omega)]
  by_cases h : e - ta = (zt j).length
  · rw [if_neg (by omega), decide_eq_true h, Bool.true_and]
    exact m_isL1 d j ta b g hb hta (by omega) (zt j) 0 rfl (by omega)
  · rw [if_pos (by omega), decide_eq_false h, Bool.false_and]
    exact m_isL0 d j 0 g
