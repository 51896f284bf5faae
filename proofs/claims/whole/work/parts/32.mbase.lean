/-! THE MODEL: its small methods -/
def zb (p : Prop) [Decidable p] : Int := if p then 1 else 0
theorem zb_t {p : Prop} [Decidable p] (h : p) : zb p = 1 := if_pos h
theorem zb_f {p : Prop} [Decidable p] (h : ¬ p) : zb p = 0 := if_neg h
theorem zb_01 {p : Prop} [Decidable p] : zb p = 0 ∨ zb p = 1 := by unfold zb; split <;> simp
theorem zU_eq (g : zG) (k j i : Nat) (x : Int) : zU g k j i x k j i = x := by unfold zU; simp
theorem zU_ne {g : zG} {k j i k' j' i' : Nat} {x : Int} (h : ¬ (k' = k ∧ j' = j ∧ i' = i)) : zU g k j i x k' j' i' = g k' j' i' := by unfold zU; rw [if_neg h]
theorem m_isIn (d : Nat) (v a b : Int) (g : zG) : EvM d 20 [.inl v, .inl a, .inl b] g = some (some (.inl (zb (a ≤ v ∧ v ≤ b))), g) := by
  rw [en20]
  simp only [e20_0, e20_1, e20_2, e20_5, e20_6, e20_7, e20_10, e20_11, e20_14, e20_15]
  by_cases h1 : v < a
  · rw [if_pos h1, zb_f (by omega)]; simp
  · by_cases h2 : b < v
    · rw [if_neg h1, if_pos h2, zb_f (by omega)]; simp
    · rw [if_neg h1, if_neg h2, zb_t (by omega)]; simp
theorem m_least (d : Nat) (a b : Int) (g : zG) : EvM d 175 [.inl a, .inl b] g = some (some (.inl (if a < b then a else b)), g) := by
  rw [en175]
  simp only [e175_0, e175_1, e175_2, e175_5, e175_6, e175_9, e175_10]
  by_cases h : a < b
  · rw [if_neg (by omega), if_pos h]
  · rw [if_pos (by omega), if_neg h]
theorem m_most (d : Nat) (a b : Int) (g : zG) : EvM d 176 [.inl a, .inl b] g = some (some (.inl (if b < a then a else b)), g) := by
  rw [en176]
  simp only [e176_0, e176_1, e176_2, e176_5, e176_6, e176_9, e176_10]
  by_cases h : b < a
  · rw [if_neg (by omega), if_pos h]
  · rw [if_pos (by omega), if_neg h]
theorem m_isPerson (d : Nat) (p : Int) (g : zG) (h : 0 ≤ g 46 0 17 ∧ g 46 0 17 < 100) : EvM (d + 1) 41 [.inr (12, 0), .inl p] g = some (some (.inl (zb (0 ≤ p ∧ p < g 46 0 17))), g) := by
  rw [en41]
  simp (disch := omega) only [e41_0, e41_1, e41_2, e41_3, e41_6, e41_8, e41_9, e41_10, e41_11, e41_14, m_isIn, zbI_some, zwr_id, if_pos, if_neg, Int.reduceToNat]
  rw [if_pos zb_01]
  congr 4
  by_cases hp : 0 ≤ p ∧ p < g 46 0 17
  · rw [zb_t hp, zb_t (by omega)]
  · rw [zb_f hp, zb_f (by omega)]
theorem m_isRule (d : Nat) (p : Int) (g : zG) (h : 0 ≤ g 46 0 18 ∧ g 46 0 18 < 100) : EvM (d + 1) 40 [.inr (12, 0), .inl p] g = some (some (.inl (zb (0 ≤ p ∧ p < g 46 0 18))), g) := by
  rw [en40]
  simp (disch := omega) only [e40_0, e40_1, e40_2, e40_3, e40_6, e40_8, e40_9, e40_10, e40_11, e40_14, m_isIn, zbI_some, zwr_id, if_pos, if_neg, Int.reduceToNat]
  rw [if_pos zb_01]
  congr 4
  by_cases hp : 0 ≤ p ∧ p < g 46 0 18
  · rw [zb_t hp, zb_t (by omega)]
  · rw [zb_f hp, zb_f (by omega)]
theorem m_own (d : Nat) (r f : Nat) (g : zG) (h : r < 10 ∧ f < 4) : EvM d 168 [.inr (12, 0), .inl (r : Int), .inl (f : Int)] g = some (some (.inl (g 46 0 (40 + 4 * r + f))), g) := by
  rw [en168]
  simp (disch := omega) only [e168_0, e168_1, e168_4, e168_6, e168_7, e168_8, e168_9, e168_10, e168_11, e168_12, e168_13, zwr_id, if_pos, if_neg, Int.reduceToNat]
  rw [show (40 + 4 * (r : Int) + (f : Int)).toNat = 40 + 4 * r + f by omega]
theorem m_gives (d : Nat) (r f : Nat) (v : Int) (g : zG) (h : r < 10 ∧ f < 4) : EvM d 27 [.inr (12, 0), .inl (r : Int), .inl (f : Int), .inl v] g = some (none, zU g 46 0 (40 + 4 * r + f) v) := by
  rw [en27]
  simp (disch := omega) only [e27_0, e27_1, e27_4, e27_6, e27_7, e27_8, e27_9, e27_10, e27_11, e27_12, e27_13, e27_14, zwr_id, if_pos, if_neg, Int.reduceToNat]
  rw [show (40 + 4 * (r : Int) + (f : Int)).toNat = 40 + 4 * r + f by omega]
theorem m_forgets (d : Nat) (g : zG) : EvM d 16 [.inr (12, 0)] g = some (none, zU g 12 0 3 0) := by
  rw [en16]
  simp only [e16_0, e16_1, e16_2, e16_5]
theorem m_state (d : Nat) (v : Int) (g : zG) : EvM (d + 1) 15 [.inr (12, 0), .inl v] g = some (some (.inl (g 46 0 7)), zU (zU g 46 0 7 v) 12 0 3 0) := by
  rw [en15]
  simp (disch := omega) only [e15_0, e15_1, e15_4, e15_6, e15_7, e15_8, e15_9, e15_12, e15_14, e15_15, e15_16, e15_17, e15_20, e15_21, m_forgets, zbV_some, zwr_id, if_pos, if_neg, Int.reduceToNat]
