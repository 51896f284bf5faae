/-! THE CLASS: counting on; the table; the book -/
theorem k_goOn {w : Nat → Int} (d j i n : Nat) (g : zG) (hA : RuAt g i w) (hX : RuX w) (hp : 0 < w 17 ∧ w 17 ≤ 8) (s wy : Int) (hn : g 1 j 0 = (n : Int)) (hs : g 1 j 1 = s) (hy : g 1 j 2 = wy) (ho : CuOk w n s wy) : EvM (d + 2) 159 [.inr (1, j), .inr (6, i), .inl (maW w n : Int), .inl (w 17)] g = some (none, zU (zU (zU (zU g 1 j 3 (tuW w n)) 1 j 2 (wyW w n wy)) 1 j 1 (seW w n s wy)) 1 j 0 (nxN n : Int)) := by
  obtain ⟨⟨n1, n2⟩, ⟨s1, s2⟩, hw⟩ := ho
  have hA' : ∀ x y, RuAt (zU g 1 j x y) i w := fun x y => hA
  have hA2 : ∀ x y x' y', RuAt (zU (zU g 1 j x y) 1 j x' y') i w := fun x y x' y' => hA
  have c1 := ctW_le hX.ok n 1
  have c2 := ctW_le hX.ok n 2
  have hT : zand (ctW w n 1 : Int) 1 = tuW w n := zand1 (by omega)
  have key : ∀ (g1 : zG), RuAt g1 i w → g1 1 j 0 = (n : Int) → g1 1 j 1 = s → g1 1 j 2 = wyW w n wy → Ev (d + 2) 159 28 [some (.inr (1, j)), some (.inr (6, i)), some (.inl (maW w n : Int)), some (.inl (w 17))] [] g1 = some (none, zU (zU g1 1 j 1 (seW w n s wy)) 1 j 0 (nxN n : Int)) := by
    intro g1 h1 h2 h3 h4
    have hb1 : -8 ≤ wyW w n wy * (1 + (ctW w n 2 : Int)) ∧ wyW w n wy * (1 + (ctW w n 2 : Int)) ≤ 8 := by rcases wyW_ok (w := w) (n := n) hw with q | q <;> rw [q] <;> omega
    have z1 : zwr (1 + (ctW w n 2 : Int)) = 1 + (ctW w n 2 : Int) := zwr_id (by omega) (by omega)
    have z2 : zwr (wyW w n wy * (1 + (ctW w n 2 : Int))) = wyW w n wy * (1 + (ctW w n 2 : Int)) := zwr_id (by omega) (by omega)
    have z3 : zwr (s + wyW w n wy * (1 + (ctW w n 2 : Int))) = s + wyW w n wy * (1 + (ctW w n 2 : Int)) := zwr_id (by omega) (by omega)
    have hf : ∀ d, EvM d 151 [.inl (s + wyW w n wy * (1 + (ctW w n 2 : Int))), .inl (w 17)] g1 = some (some (.inl (seW w n s wy)), g1) := fun d => j_floorMod d g1 z3 (by omega)
    simp only [e159_0, e159_1, e159_2, e159_3, e159_6, e159_7, e159_8, e159_11, e159_12, e159_15, e159_16, e159_19, e159_20, e159_21, e159_24, e159_25, e159_28, e159_29, e159_32, e159_33, e159_34, e159_37, e159_38, e159_41, e159_42, e159_43, e159_44, e159_47, e159_48, e159_49, e159_50, e159_51, e159_54, e159_57, e159_58, e159_59, e159_62, e159_65, e159_68, e159_69, e159_72, e159_73, e159_76, e159_77, e159_78, e159_81, k_skipsIn _ _ _ g1 h1 hX, zU_app, zbI_some, zbV_some, Int.reduceToNat, Int.reduceLE, Int.reduceLT, Int.reduceEq, Nat.reduceEqDiff, and_self, and_true, true_and, and_false, false_and, if_true, if_false, ne_eq, not_true_eq_false, not_false_eq_true, reduceCtorEq, eq_self, true_or, or_true, or_false, false_or, zbR_some, h2, h3, h4, z1, z2, z3, hf]
    rw [if_neg (by omega)]
    by_cases h9 : n = 9999
    · rw [show nxN n = 1 from if_pos h9, if_neg (by omega)]
      rfl
    · rw [show nxN n = n + 1 from if_neg h9, if_pos (by omega), zwr_id (by omega) (by omega)]
      rfl
  rw [en159]
  simp only [e159_0, e159_1, e159_2, e159_3, e159_6, e159_7, e159_8, e159_11, e159_12, e159_15, e159_16, e159_19, e159_20, e159_21, e159_24, e159_25, e159_29, e159_32, e159_33, e159_34, e159_37, e159_38, e159_41, e159_42, e159_43, e159_44, e159_47, e159_48, e159_49, e159_50, e159_51, e159_54, e159_57, e159_58, e159_59, e159_62, e159_65, e159_68, e159_69, e159_72, e159_73, e159_76, e159_77, e159_78, e159_81, k_turnsIn _ _ _ g hA hX, zU_app, zbI_some, zbV_some, Int.reduceToNat, Int.reduceLE, Int.reduceLT, Int.reduceEq, Nat.reduceEqDiff, and_self, and_true, true_and, and_false, false_and, if_true, if_false, ne_eq, not_true_eq_false, not_false_eq_true, reduceCtorEq, eq_self, true_or, or_true, or_false, false_or, zbR_some, hT, hy]
  by_cases hq : ctW w n 1 % 2 = 1
  · have hT1 : tuW w n = 1 := by unfold tuW; omega
    have hW1 : wyW w n wy = -wy := if_pos hq
    rw [hT1, hW1, zwr_id (by omega) (by omega), if_neg (by simp)]
    rw [← hW1]
    exact key _ (hA2 _ _ _ _) (by rw [zU_ne (by omega), zU_ne (by omega)]; exact hn) (by rw [zU_ne (by omega), zU_ne (by omega)]; exact hs) (by rw [zU_eq])
  · have hT1 : tuW w n = 0 := by unfold tuW; omega
    have hW1 : wyW w n wy = wy := if_neg hq
    rw [hT1, if_pos (by decide), key (zU g 1 j 3 0) (hA' _ _) (by rw [zU_ne (by omega)]; exact hn) (by rw [zU_ne (by omega)]; exact hs) (by rw [zU_ne (by omega), hy, hW1])]
    rw [hW1]
    rw [zU_self (k := 1) (j := j) (i := 2) (x := wy) (by rw [zU_ne (by omega), hy])]
theorem k_draw (d j : Nat) (g : zG) : EvM d 153 [.inr (1, j), .inl 1000] g = some (some (.inl (drV (drN (g 1 j 6)) 1000)), zU g 1 j 6 (drN (g 1 j 6))) := by
  rw [en153]
  simp only [e153_0, e153_1, e153_2, e153_5, e153_7, e153_8, e153_10, e153_11, e153_14, e153_15, e153_18, e153_19, e153_22, e153_24, e153_25, e153_26, e153_27, e153_30, e153_31, zU_app, zbI_some, zbV_some, Int.reduceToNat, Int.reduceLE, Int.reduceLT, Int.reduceEq, Nat.reduceEqDiff, and_self, and_true, true_and, and_false, false_and, if_true, if_false, ne_eq, not_true_eq_false, not_false_eq_true, reduceCtorEq, eq_self, true_or, or_true, or_false, false_or, zbR_some]
  rw [Int.mul_comm]
  rfl
theorem k_restart (d j : Nat) (g : zG) : EvM d 157 [.inr (1, j)] g = some (none, zU (zU (zU g 1 j 0 1) 1 j 2 1) 1 j 3 0) := by
  rw [en157]
  simp only [e157_0, e157_1, e157_2, e157_5, e157_6, e157_7, e157_10, e157_11, e157_12, e157_15]
theorem k_goToStart (d j : Nat) (g : zG) : EvM (d + 1) 209 [.inr (1, j)] g = some (none, zU (zU (zU (zU g 1 j 0 1) 1 j 2 1) 1 j 3 0) 1 j 1 0) := by
  rw [en209]
  simp only [e209_0, e209_1, e209_4, e209_5, e209_6, e209_9, k_restart, zbV_some]
/-- one count is another -/
def cpC (g : zG) (i j : Nat) : zG := fun k a b => if k = 1 ∧ a = i ∧ b < 8 then g 1 j b else g k a b
theorem cpC_at {g : zG} {i j b : Nat} (h : b < 8) : cpC g i j 1 i b = g 1 j b := if_pos ⟨rfl, rfl, h⟩
theorem cpC_ne {g : zG} {i j k a b : Nat} (h : ¬ (k = 1 ∧ a = i)) : cpC g i j k a b = g k a b := if_neg (fun q => h ⟨q.1, q.2.1⟩)
theorem k_ccopy (d i j : Nat) (g : zG) (hij : ¬ j = i) : EvM d 152 [.inr (1, i), .inr (1, j)] g = some (none, cpC g i j) := by
  rw [en152]
  simp only [e152_0, e152_1, e152_2, e152_5, e152_8, e152_9, e152_10, e152_13, e152_16, e152_17, e152_18, e152_21, e152_24, e152_25, e152_26, e152_29, e152_32, e152_33, e152_34, e152_37, e152_40, e152_41, e152_42, e152_45, e152_48, e152_49, e152_50, e152_53, e152_56, e152_57, e152_58, e152_61, e152_64, zU_app, zbI_some, zbV_some, Int.reduceToNat, Int.reduceLE, Int.reduceLT, Int.reduceEq, Nat.reduceEqDiff, and_self, and_true, true_and, and_false, false_and, if_true, if_false, ne_eq, not_true_eq_false, not_false_eq_true, reduceCtorEq, eq_self, true_or, or_true, or_false, false_or, zbR_some, hij]
  congr 2
  funext k a b
  unfold cpC
  by_cases h : k = 1 ∧ a = i
  · obtain ⟨rfl, rfl⟩ := h
    by_cases hb : b < 8
    · rw [if_pos ⟨rfl, rfl, hb⟩]
      rcases (show b = 0 ∨ b = 1 ∨ b = 2 ∨ b = 3 ∨ b = 4 ∨ b = 5 ∨ b = 6 ∨ b = 7 by omega) with rfl | rfl | rfl | rfl | rfl | rfl | rfl | rfl <;> simp [zU_app]
    · rw [if_neg (fun q => hb q.2.2)]
      rw [zU_ne (by omega), zU_ne (by omega), zU_ne (by omega), zU_ne (by omega), zU_ne (by omega), zU_ne (by omega), zU_ne (by omega), zU_ne (by omega)]
  · rw [if_neg (fun q => h ⟨q.1, q.2.1⟩)]
    rw [zU_ne (by omega), zU_ne (by omega), zU_ne (by omega), zU_ne (by omega), zU_ne (by omega), zU_ne (by omega), zU_ne (by omega), zU_ne (by omega)]
/-- one array is another, as far as n -/
def acU (g : zG) (k i j n : Nat) : zG := fun k' a b => if k' = k ∧ a = i ∧ b < n then g k j b else g k' a b
theorem acU_at {g : zG} {k i j n b : Nat} (h : b < n) : acU g k i j n k i b = g k j b := if_pos ⟨rfl, rfl, h⟩
theorem acU_ne {g : zG} {k i j n k' a b : Nat} (h : ¬ (k' = k ∧ a = i)) : acU g k i j n k' a b = g k' a b := if_neg (fun q => h ⟨q.1, q.2.1⟩)
theorem k_ac (d k i j n m : Nat) (x : Int) (g : zG) (h : zA k = some (0, m)) (hx : x = (n : Int)) (hn : n ≤ m) : EvM d 999 [.inr (k, j), .inl 0, .inr (k, i), .inl 0, .inl x] g = some (none, acU g k i j n) := by
  subst hx
  unfold EvM
  rw [if_pos rfl]
  simp only [zcp, h]
  rw [if_pos ⟨by omega, by omega, by omega, by omega, by omega⟩]
  congr 2
  funext a b c
  unfold acU
  by_cases h1 : a = k ∧ b = i
  · obtain ⟨rfl, rfl⟩ := h1
    rw [if_pos ⟨rfl, rfl⟩]
    by_cases h2 : c < n
    · rw [if_pos (show Int.toNat 0 ≤ c ∧ c < Int.toNat 0 + (n : Int).toNat by simp; omega), if_pos ⟨rfl, rfl, h2⟩]
      simp
    · rw [if_neg (show ¬ (Int.toNat 0 ≤ c ∧ c < Int.toNat 0 + (n : Int).toNat) by simp; omega), if_neg (fun q => h2 q.2.2)]
  · rw [if_neg h1, if_neg (fun q => h1 ⟨q.1, q.2.1⟩)]
def TbAt (g : zG) (j : Nat) (w : Nat → Int) : Prop := g 8 j 0 = w 17 ∧ ∀ p : Nat, (p : Int) < w 17 → g 39 j p = w (20 + p) ∧ g 40 j p = w (9 + p) ∧ g 41 j p = w (28 + p) ∧ g 42 j (w (28 + p)).toNat = (p : Int)
theorem k_isThere (d j : Nat) (p n : Int) (g : zG) (hn : g 8 j 0 = n) (h8 : n ≤ 8) : EvM d 34 [.inr (8, j), .inl p] g = some (some (.inl (zb (0 ≤ p ∧ p < n))), g) := by
  rw [en34]
  simp only [e34_0, e34_1, e34_4, e34_5, e34_6, e34_9, e34_12, e34_13, e34_16, e34_18, e34_21, e34_22, e34_25, e34_26, zU_app, zbI_some, zbV_some, Int.reduceToNat, Int.reduceLE, Int.reduceLT, Int.reduceEq, Nat.reduceEqDiff, and_self, and_true, true_and, and_false, false_and, if_true, if_false, ne_eq, not_true_eq_false, not_false_eq_true, reduceCtorEq, eq_self, true_or, or_true, or_false, false_or, zbR_some, hn]
  by_cases h1 : p < 0
  · rw [if_pos h1, zb_f (by omega)]
  · by_cases h2 : n ≤ p
    · rw [if_neg h1, if_pos h2, zb_f (by omega)]
    · rw [if_neg h1, if_neg h2, if_neg (by omega), zb_t (by omega)]
theorem k_weakOf (d j : Nat) (p n : Int) (g : zG) (hn : g 8 j 0 = n) (h8 : n ≤ 8) : EvM (d + 1) 142 [.inr (8, j), .inl p] g = some (some (.inl (if 0 ≤ p ∧ p < n then g 39 j p.toNat else 0)), g) := by
  rw [en142]
  simp only [e142_0, e142_1, e142_2, e142_5, e142_8, e142_9, e142_12, e142_13, e142_14, e142_17, e142_18, zU_app, zbI_some, zbV_some, Int.reduceToNat, Int.reduceLE, Int.reduceLT, Int.reduceEq, Nat.reduceEqDiff, and_self, and_true, true_and, and_false, false_and, if_true, if_false, ne_eq, not_true_eq_false, not_false_eq_true, reduceCtorEq, eq_self, true_or, or_true, or_false, false_or, zbR_some, k_isThere d j p n g hn h8]
  by_cases h1 : 0 ≤ p ∧ p < n
  · rw [zb_t h1, if_neg (by decide), if_pos (by omega), if_pos h1]
  · rw [zb_f h1, if_pos rfl, if_neg h1]
theorem k_glassesOf (d j : Nat) (p n : Int) (g : zG) (hn : g 8 j 0 = n) (h8 : n ≤ 8) : EvM (d + 1) 143 [.inr (8, j), .inl p] g = some (some (.inl (if 0 ≤ p ∧ p < n then g 40 j p.toNat else 0)), g) := by
  rw [en143]
  simp only [e143_0, e143_1, e143_2, e143_5, e143_8, e143_9, e143_12, e143_13, e143_14, e143_17, e143_18, zU_app, zbI_some, zbV_some, Int.reduceToNat, Int.reduceLE, Int.reduceLT, Int.reduceEq, Nat.reduceEqDiff, and_self, and_true, true_and, and_false, false_and, if_true, if_false, ne_eq, not_true_eq_false, not_false_eq_true, reduceCtorEq, eq_self, true_or, or_true, or_false, false_or, zbR_some, k_isThere d j p n g hn h8]
  by_cases h1 : 0 ≤ p ∧ p < n
  · rw [zb_t h1, if_neg (by decide), if_pos (by omega), if_pos h1]
  · rw [zb_f h1, if_pos rfl, if_neg h1]
theorem k_seatOf (d j : Nat) (p n : Int) (g : zG) (hn : g 8 j 0 = n) (h8 : n ≤ 8) : EvM (d + 1) 44 [.inr (8, j), .inl p] g = some (some (.inl (if 0 ≤ p ∧ p < n then g 41 j p.toNat else -1)), g) := by
  rw [en44]
  simp only [e44_0, e44_1, e44_2, e44_5, e44_8, e44_9, e44_12, e44_13, e44_14, e44_17, e44_18, zU_app, zbI_some, zbV_some, Int.reduceToNat, Int.reduceLE, Int.reduceLT, Int.reduceEq, Nat.reduceEqDiff, and_self, and_true, true_and, and_false, false_and, if_true, if_false, ne_eq, not_true_eq_false, not_false_eq_true, reduceCtorEq, eq_self, true_or, or_true, or_false, false_or, zbR_some, k_isThere d j p n g hn h8]
  by_cases h1 : 0 ≤ p ∧ p < n
  · rw [zb_t h1, if_neg (by decide), if_pos (by omega), if_pos h1]
  · rw [zb_f h1, if_pos rfl, if_neg h1]
theorem k_sitter (d j : Nat) (p n : Int) (g : zG) (hn : g 8 j 0 = n) (h8 : n ≤ 8) : EvM (d + 1) 139 [.inr (8, j), .inl p] g = some (some (.inl (if 0 ≤ p ∧ p < n then g 42 j p.toNat else -1)), g) := by
  rw [en139]
  simp only [e139_0, e139_1, e139_2, e139_5, e139_8, e139_9, e139_12, e139_13, e139_14, e139_17, e139_18, zU_app, zbI_some, zbV_some, Int.reduceToNat, Int.reduceLE, Int.reduceLT, Int.reduceEq, Nat.reduceEqDiff, and_self, and_true, true_and, and_false, false_and, if_true, if_false, ne_eq, not_true_eq_false, not_false_eq_true, reduceCtorEq, eq_self, true_or, or_true, or_false, false_or, zbR_some, k_isThere d j p n g hn h8]
  by_cases h1 : 0 ≤ p ∧ p < n
  · rw [zb_t h1, if_neg (by decide), if_pos (by omega), if_pos h1]
  · rw [zb_f h1, if_pos rfl, if_neg h1]
/-- who is on a seat -/
theorem k_sit' {w : Nat → Int} (hP : PeOk w) (d j : Nat) (s : Int) (g : zG) (hT : TbAt g j w) (h0 : 0 ≤ s) (h1 : s < w 17) : EvM (d + 1) 139 [.inr (8, j), .inl s] g = some (some (.inl (whoW w s : Int)), g) := by
  obtain ⟨q1, q2, q3⟩ := whoW_spec hP h0 h1
  rw [k_sitter d j s (w 17) g hT.1 hP.2.1, if_pos ⟨h0, h1⟩]
  have := (hT.2 (whoW w s) q1).2.2.2
  rw [q3] at this
  rw [this]
theorem k_allGl {w : Nat → Int} (hg : GlOk w) (h17 : w 17 ≤ 8) (d j : Nat) (g : zG) (hT : TbAt g j w) : ∀ (m i : Nat) (n : Int), ((i + m : Nat) : Int) = w 17 → (0 ≤ n ∧ n ≤ 9999 * (i : Int)) → Ev d 155 4 [some (.inr (8, j)), some (.inl n), some (.inl (i : Int))] [] g = some (some (.inl (glS w m i n)), g) := by
  intro m
  induction m with
  | zero =>
    intro i n hi hn
    rw [e155_4]
    simp (disch := omega) only [e155_0, e155_1, e155_2, e155_3, e155_5, e155_6, e155_9, e155_12, e155_13, e155_15, e155_18, e155_19, e155_20, e155_23, e155_24, e155_25, e155_26, e155_27, e155_30, e155_33, e155_34, zU_app, zbI_some, zbV_some, Int.reduceToNat, Int.reduceLE, Int.reduceLT, Int.reduceEq, Nat.reduceEqDiff, and_self, and_true, true_and, and_false, false_and, if_true, if_false, ne_eq, not_true_eq_false, not_false_eq_true, reduceCtorEq, eq_self, true_or, or_true, or_false, false_or, zbR_some, zwr_id, if_pos, if_neg, hT.1]
    rfl
  | succ m ih =>
    intro i n hi hn
    have hgi := hg i (by omega)
    have ht := (hT.2 i (by omega)).2.1
    rw [e155_4]
    simp (disch := omega) only [e155_0, e155_1, e155_2, e155_3, e155_5, e155_6, e155_9, e155_12, e155_13, e155_15, e155_18, e155_19, e155_20, e155_23, e155_24, e155_25, e155_26, e155_27, e155_30, e155_33, e155_34, zU_app, zbI_some, zbV_some, Int.reduceToNat, Int.reduceLE, Int.reduceLT, Int.reduceEq, Nat.reduceEqDiff, and_self, and_true, true_and, and_false, false_and, if_true, if_false, ne_eq, not_true_eq_false, not_false_eq_true, reduceCtorEq, eq_self, true_or, or_true, or_false, false_or, zbR_some, zwr_id, if_pos, if_neg, hT.1, Int.toNat_natCast, ht]
    rw [glS, show (i : Int) + 1 = ((i + 1 : Nat) : Int) by omega]
    exact ih (i + 1) _ (by omega) (by omega)
theorem k_allGlasses {w : Nat → Int} (hg : GlOk w) (h17 : 0 ≤ w 17 ∧ w 17 ≤ 8) (d j : Nat) (g : zG) (hT : TbAt g j w) : EvM d 155 [.inr (8, j)] g = some (some (.inl (glW w)), g) := by
  rw [en155]
  simp only [e155_0, e155_1, e155_2, e155_3, e155_5, e155_6, e155_9, e155_12, e155_13, e155_15, e155_18, e155_19, e155_20, e155_23, e155_24, e155_25, e155_26, e155_27, e155_30, e155_33, e155_34]
  exact k_allGl hg h17.2 d j g hT (w 17).toNat 0 0 (by omega) (by omega)
theorem k_fill (d j : Nat) (p n v : Int) (g : zG) (hn : g 8 j 0 = n) (h8 : n ≤ 8) : EvM (d + 1) 35 [.inr (8, j), .inl p, .inl v] g = if (0 ≤ p ∧ p < n) ∧ 0 ≤ v ∧ v ≤ 9999 then some (some (.inl 1), zU g 40 j p.toNat v) else some (some (.inl 0), g) := by
  rw [en35]
  simp only [e35_0, e35_1, e35_2, e35_5, e35_8, e35_9, e35_12, e35_13, e35_16, e35_19, e35_20, e35_21, e35_22, e35_25, e35_26, e35_27, e35_28, e35_29, zU_app, zbI_some, zbV_some, Int.reduceToNat, Int.reduceLE, Int.reduceLT, Int.reduceEq, Nat.reduceEqDiff, and_self, and_true, true_and, and_false, false_and, if_true, if_false, ne_eq, not_true_eq_false, not_false_eq_true, reduceCtorEq, eq_self, true_or, or_true, or_false, false_or, zbR_some, k_isThere d j p n g hn h8]
  by_cases h1 : 0 ≤ p ∧ p < n
  · rw [zb_t h1, if_neg (by decide)]
    by_cases h2 : v < 0
    · rw [if_pos h2, if_neg (by omega)]
    · by_cases h3 : v ≤ 9999
      · rw [if_neg h2, if_pos h3, if_pos (by omega), if_pos (by omega)]
      · rw [if_neg h2, if_neg h3, if_neg (by omega)]
  · rw [zb_f h1, if_pos rfl, if_neg (fun q => h1 q.1)]
theorem k_weaken (d j : Nat) (p n v : Int) (g : zG) (hn : g 8 j 0 = n) (h8 : n ≤ 8) : EvM (d + 1) 33 [.inr (8, j), .inl p, .inl v] g = if (0 ≤ p ∧ p < n) ∧ 0 ≤ v ∧ v ≤ 99 then some (some (.inl 1), zU g 39 j p.toNat v) else some (some (.inl 0), g) := by
  rw [en33]
  simp only [e33_0, e33_1, e33_2, e33_5, e33_8, e33_9, e33_12, e33_13, e33_15, e33_18, e33_19, e33_20, e33_21, e33_24, e33_25, e33_26, e33_27, e33_28, zU_app, zbI_some, zbV_some, Int.reduceToNat, Int.reduceLE, Int.reduceLT, Int.reduceEq, Nat.reduceEqDiff, and_self, and_true, true_and, and_false, false_and, if_true, if_false, ne_eq, not_true_eq_false, not_false_eq_true, reduceCtorEq, eq_self, true_or, or_true, or_false, false_or, zbR_some, k_isThere d j p n g hn h8]
  by_cases h1 : 0 ≤ p ∧ p < n
  · rw [zb_t h1, if_neg (by decide)]
    by_cases h2 : v < 0
    · rw [if_pos h2, if_neg (by omega)]
    · by_cases h3 : v ≤ 99
      · rw [if_neg h2, if_pos h3, if_pos (by omega), if_pos (by omega)]
      · rw [if_neg h2, if_neg h3, if_neg (by omega)]
  · rw [zb_f h1, if_pos rfl, if_neg (fun q => h1 q.1)]
theorem k_join (d j n : Nat) (x : Int) (g : zG) (hn : g 8 j 0 = (n : Int)) (h8 : n < 8) : EvM d 18 [.inr (8, j), .inl x] g = some (some (.inl (n : Int)), zU (zU (zU (zU (zU g 39 j n x) 40 j n 0) 41 j n n) 42 j n n) 8 j 0 ((n : Int) + 1)) := by
  rw [en18]
  simp (disch := omega) only [e18_0, e18_1, e18_4, e18_6, e18_9, e18_10, e18_11, e18_12, e18_15, e18_16, e18_17, e18_20, e18_21, e18_22, e18_23, e18_24, e18_27, e18_28, e18_29, e18_30, e18_31, e18_34, e18_35, e18_36, e18_37, e18_38, e18_41, e18_42, e18_43, e18_44, e18_45, e18_46, e18_49, e18_50, e18_51, e18_54, e18_55, zU_app, zbI_some, zbV_some, Int.reduceToNat, Int.reduceLE, Int.reduceLT, Int.reduceEq, Nat.reduceEqDiff, and_self, and_true, true_and, and_false, false_and, if_true, if_false, ne_eq, not_true_eq_false, not_false_eq_true, reduceCtorEq, eq_self, true_or, or_true, or_false, false_or, zbR_some, zwr_id, if_pos, if_neg, hn, Int.toNat_natCast]
theorem k_swap (d j a b sa sb : Nat) (n : Int) (g : zG) (hn : g 8 j 0 = n) (h8 : n ≤ 8) (ha : (a : Int) < n) (hb : (b : Int) < n) (h1 : g 41 j a = (sa : Int)) (h2 : g 41 j b = (sb : Int)) (h3 : (sa : Int) < n) (h4 : (sb : Int) < n) : EvM (d + 2) 43 [.inr (8, j), .inl (a : Int), .inl (b : Int)] g = some (none, zU (zU (zU (zU g 41 j a sb) 41 j b sa) 42 j sa b) 42 j sb a) := by
  rw [en43]
  simp (disch := omega) only [e43_0, e43_1, e43_2, e43_5, e43_6, e43_7, e43_8, e43_11, e43_13, e43_14, e43_15, e43_18, e43_21, e43_22, e43_24, e43_27, e43_30, e43_31, e43_32, e43_35, e43_36, e43_38, e43_39, e43_40, e43_43, e43_44, e43_45, e43_46, e43_47, e43_50, e43_51, e43_52, e43_53, e43_54, e43_57, e43_59, e43_60, e43_61, zU_app, zbI_some, zbV_some, Int.reduceToNat, Int.reduceLE, Int.reduceLT, Int.reduceEq, Nat.reduceEqDiff, and_self, and_true, true_and, and_false, false_and, if_true, if_false, ne_eq, not_true_eq_false, not_false_eq_true, reduceCtorEq, eq_self, true_or, or_true, or_false, false_or, zbR_some, zwr_id, if_pos, if_neg, k_seatOf _ j _ n g hn h8, Int.toNat_natCast, h1, h2, k_isThere _ j _ n g hn h8, zb_t]
