/-! THE CLASS: feed, end -/
theorem zand255 (x : Int) : zand x 255 = x % 256 := by
  unfold zand
  have e1 : (Int32.ofInt x &&& Int32.ofInt 255).toInt = (BitVec.ofInt 32 x &&& 255#32).toInt := rfl
  rw [e1]
  have e2 : (BitVec.ofInt 32 x &&& 255#32).toNat = (x % 4294967296).toNat % 256 := by
    rw [BitVec.toNat_and, BitVec.toNat_ofInt]
    exact Nat.and_two_pow_sub_one_eq_mod _ 8
  rw [BitVec.toInt_eq_toNat_cond, e2]
  rw [if_pos (by omega)]
  omega
theorem zi2b_mod (x : Int) : zi2b x % 256 = x % 256 := by
  unfold zi2b
  rw [Int8.toInt_toInt32, Int32.toInt_toInt8, Int32.toInt_ofInt]
  show (x.bmod 4294967296).bmod 256 % 256 = x % 256
  have b1 : ∀ y : Int, y.bmod 256 % 256 = y % 256 := by
    intro y
    unfold Int.bmod
    dsimp only
    split <;> omega
  have b2 : ∀ y : Int, y.bmod 4294967296 % 256 = y % 256 := by
    intro y
    unfold Int.bmod
    dsimp only
    split <;> omega
  rw [b1, b2]
/-- the class has the tape -/
def TpAt (g : zG) (b : Nat → Int) (T : Nat) : Prop := g 9 0 0 = (T : Int) ∧ T ≤ 400 ∧ ∀ i, i < T → zand (g 43 0 i) 255 = b i
theorem TpAt.on {g g' : zG} {b : Nat → Int} {T : Nat} (h : TpAt g b T) (e : ∀ k x, (k = 9 ∧ x = 0) ∨ k = 43 → g' k 0 x = g k 0 x) : TpAt g' b T := ⟨by rw [e 9 0 (by omega)]; exact h.1, h.2.1, fun i hi => by rw [e 43 i (by omega)]; exact h.2.2 i hi⟩
theorem k_putL (d s : Nat) (v : Int) (hs : s + 4 ≤ 400) : ∀ (m i : Nat) (x : Int) (g : zG), i + m = 4 → x = 24 - 8 * (i : Int) → g 9 0 0 = ((s + i : Nat) : Int) → ∃ g', Ev d 47 3 [some (.inr (9, 0)), some (.inl v), some (.inl x)] [] g = some (none, g') ∧ g' 9 0 0 = ((s + 4 : Nat) : Int) ∧ (∀ y, i ≤ y → y < 4 → zand (g' 43 0 (s + y)) 255 = zand (zshr v ((24 - 8 * y : Nat) : Int)) 255) ∧ Fr (fun k a y => (k = 43 ∧ a = 0 ∧ s + i ≤ y ∧ y < s + 4) ∨ (k = 9 ∧ a = 0 ∧ y = 0)) g g' := by
  intro m
  induction m with
  | zero =>
    intro i x g hi hx hg
    have hi : i = 4 := by omega
    subst hi
    refine ⟨g, ?_, hg, fun y h1 h2 => by omega, Fr.rf⟩
    rw [e47_3]
    simp (disch := omega) only [e47_0, e47_2, e47_4, e47_7, e47_8, e47_11, e47_14, e47_17, e47_18, e47_21, e47_22, e47_25, e47_26, e47_27, e47_28, e47_29, e47_30, e47_31, e47_32, e47_35, e47_36, e47_37, e47_40, e47_43, e47_46, zU_app, zbI_some, zbV_some, Int.reduceToNat, Int.reduceLE, Int.reduceLT, Int.reduceEq, Nat.reduceEqDiff, and_self, and_true, true_and, and_false, false_and, if_true, if_false, ne_eq, not_true_eq_false, not_false_eq_true, reduceCtorEq, eq_self, true_or, or_true, or_false, false_or, zbR_some, zwr_id, if_pos, if_neg]
  | succ m ih =>
    intro i x g hi hx hg
    have ex : x = ((24 - 8 * i : Nat) : Int) := by omega
    have z1 : zwr (x + -8) = x + -8 := zwr_id (by omega) (by omega)
    have z2 : zwr (((s + i : Nat) : Int) + 1) = ((s + (i + 1) : Nat) : Int) := by rw [zwr_id (by omega) (by omega)]; omega
    obtain ⟨g1, e1, h1, h2, f1⟩ := ih (i + 1) (x + -8) (zU (zU g 43 0 (s + i) (zi2b (zi2b (zshr v x)))) 9 0 0 ((s + (i + 1) : Nat) : Int)) (by omega) (by omega) rfl
    refine ⟨g1, ?_, h1, fun y y1 y2 => ?_, ((Fr.u (by omega)).tr (Fr.u (by omega))).tr (f1.up (fun k a y q => by omega))⟩
    · rw [← e1, e47_3]
      simp only [e47_0, e47_2, e47_4, e47_7, e47_8, e47_11, e47_14, e47_17, e47_18, e47_21, e47_22, e47_25, e47_26, e47_27, e47_28, e47_29, e47_30, e47_31, e47_32, e47_35, e47_36, e47_37, e47_40, e47_43, e47_46, zU_app, zbI_some, zbV_some, Int.reduceToNat, Int.reduceLE, Int.reduceLT, Int.reduceEq, Nat.reduceEqDiff, and_self, and_true, true_and, and_false, false_and, if_true, if_false, ne_eq, not_true_eq_false, not_false_eq_true, reduceCtorEq, eq_self, true_or, or_true, or_false, false_or, zbR_some, hg, Int.toNat_natCast, z1, z2]
      rw [if_neg (by omega), if_neg (by omega), if_pos (by omega)]
    · by_cases q : y = i
      · subst q
        rw [f1 43 0 _ (by omega), zU_ne (by omega), zU_eq, zand255, zand255, zi2b_mod, zi2b_mod, ex]
      · exact h2 y (by omega) y2
theorem k_put (d s : Nat) (v : Int) (hs : s + 4 ≤ 400) (g : zG) (hg : g 9 0 0 = (s : Int)) : ∃ g', EvM d 47 [.inr (9, 0), .inl v] g = some (none, g') ∧ g' 9 0 0 = ((s + 4 : Nat) : Int) ∧ (∀ y, y < 4 → zand (g' 43 0 (s + y)) 255 = zand (zshr v ((24 - 8 * y : Nat) : Int)) 255) ∧ Fr (fun k a y => (k = 43 ∧ a = 0 ∧ s ≤ y ∧ y < s + 4) ∨ (k = 9 ∧ a = 0 ∧ y = 0)) g g' := by
  obtain ⟨g1, e1, h1, h2, f1⟩ := k_putL d s v hs 4 0 24 g (by omega) (by omega) hg
  refine ⟨g1, ?_, h1, fun y hy => h2 y (by omega) hy, f1⟩
  rw [en47]
  simp only [e47_0, e47_2, e47_4, e47_7, e47_8, e47_11, e47_14, e47_17, e47_18, e47_21, e47_22, e47_25, e47_26, e47_27, e47_28, e47_29, e47_30, e47_31, e47_32, e47_35, e47_36, e47_37, e47_40, e47_43, e47_46]
  exact e1
theorem k_feed (d : Nat) (a b c e f : Int) (t : Nat) (B B' : Nat → Int) (g : zG) (hT : TpAt g B t) (h1 : ∀ i, i < t → B' i = B i) (h2 : ∀ x, x < 20 → B' (t + x) = fdB a b c e f x) : (400 < t + 20 ∧ EvM (d + 1) 46 [.inr (11, 0), .inl a, .inl b, .inl c, .inl e, .inl f] g = some (some (.inl (-1)), g)) ∨ (t + 20 ≤ 400 ∧ ∃ g', EvM (d + 1) 46 [.inr (11, 0), .inl a, .inl b, .inl c, .inl e, .inl f] g = some (some (.inl ((t + 20 : Nat) : Int)), g') ∧ TpAt g' B' (t + 20) ∧ Fr (fun k a y => (k = 43 ∧ a = 0) ∨ (k = 9 ∧ a = 0 ∧ y = 0)) g g') := by
  have h4 := hT.2.1
  have z : zwr ((t : Int) + 20) = (t : Int) + 20 := zwr_id (by omega) (by omega)
  by_cases hq : 400 < t + 20
  · left
    refine ⟨hq, ?_⟩
    rw [en46]
    simp (disch := omega) only [e46_0, e46_1, e46_4, e46_7, e46_9, e46_11, e46_14, e46_16, e46_17, e46_20, e46_23, e46_24, e46_25, e46_27, e46_28, e46_31, e46_33, e46_34, e46_37, e46_39, e46_40, e46_43, e46_45, e46_47, e46_50, e46_52, e46_54, e46_57, e46_59, e46_62, zU_app, zbI_some, zbV_some, Int.reduceToNat, Int.reduceLE, Int.reduceLT, Int.reduceEq, Nat.reduceEqDiff, and_self, and_true, true_and, and_false, false_and, if_true, if_false, ne_eq, not_true_eq_false, not_false_eq_true, reduceCtorEq, eq_self, true_or, or_true, or_false, false_or, zbR_some, zwr_id, if_pos, if_neg, hT.1]
  · right
    refine ⟨by omega, ?_⟩
    obtain ⟨g1, e1, s1, b1, f1⟩ := k_put d t a (by omega) g hT.1
    obtain ⟨g2, e2, s2, b2, f2⟩ := k_put d (t + 4) b (by omega) g1 s1
    obtain ⟨g3, e3, s3, b3, f3⟩ := k_put d (t + 4 + 4) c (by omega) g2 s2
    obtain ⟨g4, e4, s4, b4, f4⟩ := k_put d (t + 4 + 4 + 4) e (by omega) g3 s3
    obtain ⟨g5, e5, s5, b5, f5⟩ := k_put d (t + 4 + 4 + 4 + 4) f (by omega) g4 s4
    refine ⟨g5, ?_, ⟨by rw [s5], by omega, fun i hi => ?_⟩, ((((f1.up (fun k a y q => by omega)).tr (f2.up (fun k a y q => by omega))).tr (f3.up (fun k a y q => by omega))).tr (f4.up (fun k a y q => by omega))).tr (f5.up (fun k a y q => by omega))⟩
    · rw [en46]
      simp (disch := omega) only [e46_0, e46_1, e46_4, e46_7, e46_9, e46_11, e46_14, e46_16, e46_17, e46_20, e46_23, e46_24, e46_25, e46_27, e46_28, e46_31, e46_33, e46_34, e46_37, e46_39, e46_40, e46_43, e46_45, e46_47, e46_50, e46_52, e46_54, e46_57, e46_59, e46_62, zU_app, zbI_some, zbV_some, Int.reduceToNat, Int.reduceLE, Int.reduceLT, Int.reduceEq, Nat.reduceEqDiff, and_self, and_true, true_and, and_false, false_and, if_true, if_false, ne_eq, not_true_eq_false, not_false_eq_true, reduceCtorEq, eq_self, true_or, or_true, or_false, false_or, zbR_some, zwr_id, if_pos, if_neg, hT.1, e1, e2, e3, e4, e5, s5]
    · by_cases q0 : i < t
      · rw [f5 43 0 i (by omega), f4 43 0 i (by omega), f3 43 0 i (by omega), f2 43 0 i (by omega), f1 43 0 i (by omega), h1 i q0]
        exact hT.2.2 i q0
      · obtain ⟨x, rfl⟩ : ∃ x, i = t + x := ⟨i - t, by omega⟩
        have hx : x < 20 := by omega
        rw [h2 x hx]
        unfold fdB
        by_cases q1 : x < 4
        · rw [if_pos q1, f5 43 0 _ (by omega), f4 43 0 _ (by omega), f3 43 0 _ (by omega), f2 43 0 _ (by omega), b1 x q1, show x % 4 = x by omega]
        · rw [if_neg q1]
          by_cases q2 : x < 8
          · rw [if_pos q2, f5 43 0 _ (by omega), f4 43 0 _ (by omega), f3 43 0 _ (by omega), show t + x = t + 4 + (x - 4) by omega, b2 (x - 4) (by omega), show x % 4 = x - 4 by omega]
          · rw [if_neg q2]
            by_cases q3 : x < 12
            · rw [if_pos q3, f5 43 0 _ (by omega), f4 43 0 _ (by omega), show t + x = t + 4 + 4 + (x - 8) by omega, b3 (x - 8) (by omega), show x % 4 = x - 8 by omega]
            · rw [if_neg q3]
              by_cases q4 : x < 16
              · rw [if_pos q4, f5 43 0 _ (by omega), show t + x = t + 4 + 4 + 4 + (x - 12) by omega, b4 (x - 12) (by omega), show x % 4 = x - 12 by omega]
              · rw [if_neg q4, show t + x = t + 4 + 4 + 4 + 4 + (x - 16) by omega, b5 (x - 16) (by omega), show x % 4 = x - 16 by omega]
theorem k_cut (d : Nat) (n t : Int) (g : zG) (ht : g 9 0 0 = t) : EvM d 50 [.inr (9, 0), .inl n] g = if 0 ≤ n ∧ n ≤ t then some (some (.inl 1), zU g 9 0 0 n) else some (some (.inl 0), g) := by
  rw [en50]
  simp only [e50_0, e50_1, e50_4, e50_5, e50_6, e50_9, e50_12, e50_13, e50_14, e50_15, e50_16, e50_19, e50_20, zU_app, zbI_some, zbV_some, Int.reduceToNat, Int.reduceLE, Int.reduceLT, Int.reduceEq, Nat.reduceEqDiff, and_self, and_true, true_and, and_false, false_and, if_true, if_false, ne_eq, not_true_eq_false, not_false_eq_true, reduceCtorEq, eq_self, true_or, or_true, or_false, false_or, zbR_some, ht]
  by_cases h1 : n < 0
  · rw [if_pos h1, if_neg (by omega)]
  · by_cases h2 : n ≤ t
    · rw [if_neg h1, if_pos h2, if_pos (by omega)]
    · rw [if_neg h1, if_neg h2, if_neg (by omega)]
theorem k_end (d : Nat) (n t : Int) (g : zG) (ht : g 9 0 0 = t) : EvM (d + 1) 49 [.inr (11, 0), .inl n] g = if 0 ≤ n ∧ n ≤ t then some (some (.inl 1), zU g 9 0 0 n) else some (some (.inl 0), g) := by
  rw [en49]
  simp only [e49_0, e49_1, e49_4, e49_7, e49_8, e49_11, k_cut d n t g ht]
  by_cases h : 0 ≤ n ∧ n ≤ t
  · rw [if_pos h]; simp only [zU_app, zbI_some, zbV_some, Int.reduceToNat, Int.reduceLE, Int.reduceLT, Int.reduceEq, Nat.reduceEqDiff, and_self, and_true, true_and, and_false, false_and, if_true, if_false, ne_eq, not_true_eq_false, not_false_eq_true, reduceCtorEq, eq_self, true_or, or_true, or_false, false_or, zbR_some]
  · rw [if_neg h]; simp only [zU_app, zbI_some, zbV_some, Int.reduceToNat, Int.reduceLE, Int.reduceLT, Int.reduceEq, Nat.reduceEqDiff, and_self, and_true, true_and, and_false, false_and, if_true, if_false, ne_eq, not_true_eq_false, not_false_eq_true, reduceCtorEq, eq_self, true_or, or_true, or_false, false_or, zbR_some]
