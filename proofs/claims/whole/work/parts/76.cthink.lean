/-! THE CLASS in thought: whose, get, hardest -/
def Cx (g : zG) (i : Nat) (w : Nat → Int) (ls : List (List (Int × Int) × List (Int × Int))) : Prop := TbAt g 0 w ∧ RuAt g i w ∧ LcAt g 0 ls ∧ g 5 0 5 = w 19
def sCx (i : Nat) : Nat → Nat → Nat → Prop := fun k a x => ((k = 8 ∨ k = 39 ∨ k = 40 ∨ k = 41 ∨ k = 42) ∧ a = 0) ∨ ((k = 6 ∨ k = 32 ∨ k = 33 ∨ k = 34) ∧ a = i) ∨ (k = 3 ∧ a = 0 ∧ x < 3) ∨ (k = 28 ∧ a = 0) ∨ (k = 5 ∧ a = 0 ∧ x = 5)
theorem TbAt.on {g g' : zG} {j : Nat} {w : Nat → Int} (h : TbAt g j w) (e : ∀ k x, (k = 8 ∨ k = 39 ∨ k = 40 ∨ k = 41 ∨ k = 42) → g' k j x = g k j x) : TbAt g' j w := by
  refine ⟨by rw [e 8 0 (by omega)]; exact h.1, fun p hp => ?_⟩
  obtain ⟨h1, h2, h3, h4⟩ := h.2 p hp
  rw [e 39 _ (by omega), e 40 _ (by omega), e 41 _ (by omega), e 42 _ (by omega)]
  exact ⟨h1, h2, h3, h4⟩
theorem RuAt.on {g g' : zG} {j : Nat} {w : Nat → Int} (h : RuAt g j w) (e : ∀ k x, (k = 6 ∨ k = 32 ∨ k = 33 ∨ k = 34) → g' k j x = g k j x) : RuAt g' j w := by
  obtain ⟨h1, h2, h3, h4, h5⟩ := h
  refine ⟨by rw [e 6 0 (by omega)]; exact h1, fun r hr => ?_, by rw [e 6 4 (by omega)]; exact h3, by rw [e 6 5 (by omega)]; exact h4, by rw [e 6 6 (by omega)]; exact h5⟩
  rw [e 32 _ (by omega), e 33 _ (by omega), e 34 _ (by omega)]
  exact h2 r hr
theorem LcAt.on {g g' : zG} {j : Nat} {ls : List (List (Int × Int) × List (Int × Int))} (h : LcAt g j ls) (e : ∀ k x, (k = 3 ∧ x < 3) ∨ k = 28 → g' k j x = g k j x) : LcAt g' j ls := by
  obtain ⟨h1, ⟨h2, h3, h4, h5⟩, h6, h7⟩ := h
  refine ⟨by rw [e 3 0 (by omega)]; exact h1, ⟨by rw [e 3 2 (by omega)]; exact h2, h3, h4, fun q hq => ?_⟩, by rw [e 3 1 (by omega)]; exact h6, by rw [e 3 1 (by omega)]; exact h7⟩
  rw [e 28 _ (by omega)]
  exact h5 q hq
theorem Cx.on {g g' : zG} {i : Nat} {w : Nat → Int} {ls : List (List (Int × Int) × List (Int × Int))} (h : Cx g i w ls) (e : ∀ k a x, sCx i k a x → g' k a x = g k a x) : Cx g' i w ls :=
  ⟨h.1.on (fun k x q => e k 0 x (Or.inl ⟨q, rfl⟩)), h.2.1.on (fun k x q => e k i x (Or.inr (Or.inl ⟨q, rfl⟩))), h.2.2.1.on (fun k x q => e k 0 x (by unfold sCx; omega)), by rw [e 5 0 5 (by unfold sCx; omega)]; exact h.2.2.2⟩
def HeAt (g : zG) (n : Nat) (s wy t : Int) : Prop := g 1 12 0 = (n : Int) ∧ g 1 12 1 = s ∧ g 1 12 2 = wy ∧ g 1 12 3 = t
def sTt : Nat → Nat → Nat → Prop := fun k a i => (k = 1 ∧ a = 12) ∨ k = 10 ∨ k = 44 ∨ k = 45 ∨ k = 7 ∨ (35 ≤ k ∧ k ≤ 38) ∨ sLw 0 k a i
theorem Cx.fr {g g' : zG} {i : Nat} {w : Nat → Int} {ls : List (List (Int × Int) × List (Int × Int))} (h : Cx g i w ls) (hf : Fr sTt g g') : Cx g' i w ls := h.on (fun k a x q => hf k a x (by unfold sCx at q; unfold sTt sLw sSk; omega))
theorem HeAt.fr {g g' : zG} {n : Nat} {s wy t : Int} (h : HeAt g n s wy t) (hf : Fr (sLw 0) g g') : HeAt g' n s wy t := by
  unfold HeAt
  rw [hf 1 12 0 (by unfold sLw sSk; omega), hf 1 12 1 (by unfold sLw sSk; omega), hf 1 12 2 (by unfold sLw sSk; omega), hf 1 12 3 (by unfold sLw sSk; omega)]
  exact h
theorem HeAt.th {g : zG} {n : Nat} {s wy t : Int} (h : HeAt g n s wy t) (k a i : Nat) (x : Int) (hk : k ≠ 1) : HeAt (zU g k a i x) n s wy t := by
  unfold HeAt
  rw [zU_ne (by omega), zU_ne (by omega), zU_ne (by omega), zU_ne (by omega)]
  exact h
/-- pure facts of a row and its law -/
def WOk (w : Nat → Int) (ls : List (List (Int × Int) × List (Int × Int))) : Prop := MOk w ∧ RuX w ∧ LwAt w ls ∧ LsOk ls
theorem lw_tt {k a i : Nat} (h : sLw 0 k a i) : sTt k a i := Or.inr (Or.inr (Or.inr (Or.inr (Or.inr (Or.inr h)))))
/-- here goes on -/
theorem k_hereOn {w : Nat → Int} {ls : List (List (Int × Int) × List (Int × Int))} (d i n : Nat) (s wy t : Int) (g : zG) (hC : Cx g i w ls) (hX : RuX w) (hp : 0 < w 17 ∧ w 17 ≤ 8) (hH : HeAt g n s wy t) (ho : CuOk w n s wy) : ∃ g', EvM (d + 2) 159 [.inr (1, 12), .inr (6, i), .inl (maW w n : Int), .inl (w 17)] g = some (none, g') ∧ HeAt g' (nxN n) (seW w n s wy) (wyW w n wy) (tuW w n) ∧ Fr (fun k a _ => k = 1 ∧ a = 12) g g' := by
  obtain ⟨h1, h2, h3, h4⟩ := hH
  refine ⟨_, k_goOn d 12 i n g hC.2.1 hX hp s wy h1 h2 h3 ho, ⟨rfl, rfl, rfl, rfl⟩, ?_⟩
  exact (((Fr.u ⟨rfl, rfl⟩).tr (Fr.u ⟨rfl, rfl⟩)).tr (Fr.u ⟨rfl, rfl⟩)).tr (Fr.u ⟨rfl, rfl⟩)
theorem k_sayL {w : Nat → Int} {ls : List (List (Int × Int) × List (Int × Int))} (hX : RuX w) (hP : PeOk w) (d v : Nat) (hv : v < 10000) : ∀ (k n : Nat) (s wy t : Int) (g : zG), n + k = v → Cx g 0 w ls → HeAt g n s wy t → CuOk w n s wy → ∃ g', Ev (d + 3) 197 19 [some (.inr (10, 0)), some (.inr (5, 0)), some (.inl (v : Int)), some (.inl (n : Int))] [] g = some (some (.inl (whW w k n s wy : Int)), g') ∧ Fr sTt g g' := by
  intro k
  induction k with
  | zero =>
    intro n s wy t g hn hC hH ho
    refine ⟨g, ?_, Fr.rf⟩
    have k1 := k_sit' hP (d + 1) 0 s g hC.1 ho.2.1.1 ho.2.1.2
    rw [e197_19]
    simp (disch := omega) only [e197_0, e197_1, e197_4, e197_5, e197_8, e197_11, e197_12, e197_15, e197_18, e197_20, e197_21, e197_24, e197_25, e197_28, e197_29, e197_32, e197_33, e197_36, e197_37, e197_40, e197_41, e197_44, e197_47, e197_50, e197_53, e197_56, e197_57, e197_60, e197_61, e197_64, e197_67, e197_70, zU_app, zbI_some, zbV_some, Int.reduceToNat, Int.reduceLE, Int.reduceLT, Int.reduceEq, Nat.reduceEqDiff, and_self, and_true, true_and, and_false, false_and, if_true, if_false, ne_eq, not_true_eq_false, not_false_eq_true, reduceCtorEq, eq_self, true_or, or_true, or_false, false_or, zbR_some, zwr_id, if_pos, if_neg, hH.2.1, k1]
    rfl
  | succ k ih =>
    intro n s wy t g hn hC hH ho
    obtain ⟨g1, e1, h1, f1⟩ := k_hereOn d 0 n s wy t g hC hX ⟨hP.1, hP.2.1⟩ hH ho
    have hm := k_mask (d + 1) n 0 g hC.2.1 hX (by omega)
    have f1' : Fr sTt g g1 := f1.up (fun k a i q => Or.inl q)
    have hnx : nxN n = n + 1 := if_neg (by omega)
    have ho1 := CuOk.on hP.1 ho
    rw [hnx] at h1 ho1
    obtain ⟨g2, e2, f2⟩ := ih (n + 1) _ _ _ g1 (by omega) (hC.fr f1') h1 ho1
    refine ⟨g2, ?_, f1'.tr f2⟩
    rw [e197_19]
    simp (disch := omega) only [e197_0, e197_1, e197_4, e197_5, e197_8, e197_11, e197_12, e197_15, e197_18, e197_20, e197_21, e197_24, e197_25, e197_28, e197_29, e197_32, e197_33, e197_36, e197_37, e197_40, e197_41, e197_44, e197_47, e197_50, e197_53, e197_56, e197_57, e197_60, e197_61, e197_64, e197_67, e197_70, zU_app, zbI_some, zbV_some, Int.reduceToNat, Int.reduceLE, Int.reduceLT, Int.reduceEq, Nat.reduceEqDiff, and_self, and_true, true_and, and_false, false_and, if_true, if_false, ne_eq, not_true_eq_false, not_false_eq_true, reduceCtorEq, eq_self, true_or, or_true, or_false, false_or, zbR_some, zwr_id, if_pos, if_neg, hm, hC.1.1, e1]
    rw [whW, hnx, ← e2]
    rfl
def gtK (w : Nat → Int) : Nat → Nat → Int → Int → Int → Int → Int
  | 0, _, _, _, _, c => c
  | k + 1, n, s, wy, t, c => gtK w k (nxN n) (seW w n s wy) (wyW w n wy) (tuW w n) (chS c (osW w n s t))
def hkW (w : Nat → Int) : Nat → Nat → Int → Int → Int → Int → Int → Int
  | 0, _, _, _, _, _, h => h
  | k + 1, n, s, wy, t, m, h => if m < osW w n s t then hkW w k (nxN n) (seW w n s wy) (wyW w n wy) (tuW w n) (osW w n s t) n else hkW w k (nxN n) (seW w n s wy) (wyW w n wy) (tuW w n) m h
theorem gtW_gtK (w : Nat → Int) : ∀ (k n : Nat) (s wy t c : Int), gtW w k n s wy t c = gtK w (k + 1) n s wy t c
  | 0, n, s, wy, t, c => rfl
  | k + 1, n, s, wy, t, c => by rw [gtW, gtK, gtW_gtK w k]
theorem hkW_hdW (w : Nat → Int) : ∀ (k n : Nat) (s wy : Int) (b : Nat) (m : Int), hkW w k (nxN n) (seW w n s wy) (wyW w n wy) (tuW w n) m b = (hdW w k n s wy b m : Int)
  | 0, n, s, wy, b, m => rfl
  | k + 1, n, s, wy, b, m => by
    rw [hkW, hdW]
    split
    · rw [hkW_hdW w k]
    · rw [hkW_hdW w k]
set_option maxHeartbeats 1000000 in
theorem k_chL {w : Nat → Int} {ls : List (List (Int × Int) × List (Int × Int))} (hX : RuX w) (hP : PeOk w) (hW : LwAt w ls) (hO : LsOk ls) (d i v : Nat) (hv : v < 10000) : ∀ (k n : Nat) (s wy t c m r : Int) (u8 u9 : Option zV) (g : zG), n + k = v + 1 → Cx g i w ls → (0 < k → HeAt g n s wy t ∧ CuOk w n s wy ∧ (ask ls → r = (rnW w (n - 1) : Int))) → (0 ≤ c ∧ c ≤ 1000000) → (0 ≤ r ∧ r < n) → ∃ g', Ev (d + 5) 201 39 [some (.inr (10, 0)), some (.inr (5, 0)), some (.inr (6, i)), some (.inl (v : Int)), some (.inl c), some (.inl m), some (.inl r), some (.inl (n : Int)), u8, u9] [] g = some (some (.inl (gtK w k n s wy t c)), g') ∧ g' 10 0 0 = hkW w k n s wy t m (g 10 0 0) ∧ Fr sTt g g' := by
  intro k
  induction k with
  | zero =>
    intro n s wy t c m r u8 u9 g hn hC hH hc hr
    refine ⟨g, ?_, rfl, Fr.rf⟩
    rw [e201_39]
    simp (disch := omega) only [e201_0, e201_1, e201_4, e201_5, e201_8, e201_11, e201_13, e201_15, e201_16, e201_18, e201_19, e201_20, e201_23, e201_25, e201_26, e201_27, e201_30, e201_31, e201_34, e201_37, e201_41, e201_42, e201_45, e201_46, e201_48, e201_51, e201_53, e201_55, e201_58, e201_59, e201_62, e201_64, e201_65, e201_66, e201_68, e201_69, e201_70, e201_73, e201_74, e201_77, e201_80, e201_83, e201_84, e201_87, e201_89, e201_91, e201_94, e201_96, e201_98, e201_101, e201_103, e201_104, e201_105, e201_108, e201_109, e201_111, e201_113, e201_115, e201_118, e201_120, e201_122, e201_123, e201_125, e201_128, e201_129, e201_132, e201_133, e201_135, e201_136, e201_139, e201_142, e201_145, e201_148, e201_151, e201_153, zU_app, zbI_some, zbV_some, Int.reduceToNat, Int.reduceLE, Int.reduceLT, Int.reduceEq, Nat.reduceEqDiff, and_self, and_true, true_and, and_false, false_and, if_true, if_false, ne_eq, not_true_eq_false, not_false_eq_true, reduceCtorEq, eq_self, true_or, or_true, or_false, false_or, zbR_some, zwr_id, if_pos, if_neg]
    rfl
  | succ k ih =>
    intro n s wy t c m r u8 u9 g hn hC hH hc hr
    obtain ⟨hH, ho, hask⟩ := hH (by omega)
    obtain ⟨w1, w2, w3⟩ := whoW_spec hP ho.2.1.1 ho.2.1.2
    have hm := k_mask (d + 3) n i g hC.2.1 hX (by omega)
    have k1 := k_sit' hP (d + 3) 0 s g hC.1 ho.2.1.1 ho.2.1.2
    -- the run up to here
    let r' : Int := if maW w n = 0 then 0 else r + 1
    have hr' : 0 ≤ r' ∧ r' ≤ n := by show 0 ≤ (if maW w n = 0 then 0 else r + 1) ∧ (if maW w n = 0 then 0 else r + 1) ≤ (n : Int); split <;> omega
    have hask' : ask ls → r' = (rnW w n : Int) := by
      intro ha
      have q := hask ha
      have en : n = (n - 1) + 1 := by have := ho.1.1; omega
      show (if maW w n = 0 then 0 else r + 1) = _
      rw [en, rnW, ← en, q]
      by_cases z : maW w n = 0
      · rw [if_pos z, if_pos z]; rfl
      · rw [if_neg z, if_neg z]; rfl
    obtain ⟨g1, e1, f1⟩ := k_rodds d 0 12 (whoW w s) n t r' g hC.1 hC.2.2.1 hW hO hX w1 hP.2.1 hC.2.2.2 hH.1 hH.2.2.2 hask'
    have f1' : Fr sTt g g1 := f1.up (fun k a x q => lw_tt q)
    have hod := odW_rng w (whoW w s) n t
    have hch := chS_rng hc hod
    have hcj := chS_j hc hod
    have start : Ev (d + 5) 201 39 [some (.inr (10, 0)), some (.inr (5, 0)), some (.inr (6, i)), some (.inl (v : Int)), some (.inl c), some (.inl m), some (.inl r), some (.inl (n : Int)), u8, u9] [] g = Ev (d + 5) 201 68 [some (.inr (10, 0)), some (.inr (5, 0)), some (.inr (6, i)), some (.inl (v : Int)), some (.inl c), some (.inl m), some (.inl r'), some (.inl (n : Int)), some (.inl (maW w n : Int)), u9] [] g := by
      rw [e201_39]
      simp (disch := omega) only [e201_0, e201_1, e201_4, e201_5, e201_8, e201_11, e201_13, e201_15, e201_16, e201_18, e201_19, e201_20, e201_23, e201_25, e201_26, e201_27, e201_30, e201_31, e201_34, e201_37, e201_41, e201_42, e201_45, e201_46, e201_48, e201_51, e201_53, e201_55, e201_58, e201_59, e201_62, e201_64, e201_65, e201_66, e201_69, e201_70, e201_73, e201_74, e201_77, e201_80, e201_83, e201_84, e201_87, e201_89, e201_91, e201_94, e201_96, e201_98, e201_101, e201_103, e201_104, e201_105, e201_108, e201_109, e201_111, e201_113, e201_115, e201_118, e201_120, e201_122, e201_123, e201_125, e201_128, e201_129, e201_132, e201_133, e201_135, e201_136, e201_139, e201_142, e201_145, e201_148, e201_151, e201_153, zU_app, zbI_some, zbV_some, Int.reduceToNat, Int.reduceLE, Int.reduceLT, Int.reduceEq, Nat.reduceEqDiff, and_self, and_true, true_and, and_false, false_and, if_true, if_false, ne_eq, not_true_eq_false, not_false_eq_true, reduceCtorEq, eq_self, true_or, or_true, or_false, false_or, zbR_some, zwr_id, if_pos, if_neg, hm]
      show _ = Ev _ _ _ [_, _, _, _, _, _, some (.inl (if maW w n = 0 then 0 else r + 1)), _, _, _] _ _
      by_cases z : maW w n = 0
      · rw [if_neg (by omega), if_pos z]
      · rw [if_pos (by omega), if_neg z]
    rw [start]
    -- behind the odds
    have rest : ∀ (g2 : zG) (m' : Int), Cx g2 i w ls → HeAt g2 n s wy t → ∃ g', Ev (d + 5) 201 128 [some (.inr (10, 0)), some (.inr (5, 0)), some (.inr (6, i)), some (.inl (v : Int)), some (.inl (chS c (osW w n s t))), some (.inl m'), some (.inl r'), some (.inl (n : Int)), some (.inl (maW w n : Int)), some (.inl (osW w n s t))] [] g2 = some (some (.inl (gtK w k (nxN n) (seW w n s wy) (wyW w n wy) (tuW w n) (chS c (osW w n s t)))), g') ∧ g' 10 0 0 = hkW w k (nxN n) (seW w n s wy) (wyW w n wy) (tuW w n) m' (g2 10 0 0) ∧ Fr sTt g2 g' := by
      intro g2 m' c2 h2
      obtain ⟨g3, e3, h3, f3⟩ := k_hereOn (d + 2) i n s wy t g2 c2 hX ⟨hP.1, hP.2.1⟩ h2 ho
      have f3' : Fr sTt g2 g3 := f3.up (fun k a i q => Or.inl q)
      have ho1 := CuOk.on hP.1 ho
      obtain ⟨g4, e4, h4, f4⟩ := ih (n + 1) (seW w n s wy) (wyW w n wy) (tuW w n) (chS c (osW w n s t)) m' r' (some (.inl (maW w n : Int))) (some (.inl (osW w n s t))) g3 (by omega) (c2.fr f3') (fun hk => by
        have hnx : nxN n = n + 1 := if_neg (by omega)
        rw [hnx] at h3 ho1
        exact ⟨h3, ho1, hask'⟩) ⟨hch.1, by have := hch.2; show chS c (odW w (whoW w s) n t) ≤ 1000000; omega⟩ (by omega)
      have en : ∀ (c' m' h' : Int), gtK w k (n + 1) (seW w n s wy) (wyW w n wy) (tuW w n) c' = gtK w k (nxN n) (seW w n s wy) (wyW w n wy) (tuW w n) c' ∧ hkW w k (n + 1) (seW w n s wy) (wyW w n wy) (tuW w n) m' h' = hkW w k (nxN n) (seW w n s wy) (wyW w n wy) (tuW w n) m' h' := by
        intro c' m' h'
        cases k with
        | zero => exact ⟨rfl, rfl⟩
        | succ k =>
          have hnx : nxN n = n + 1 := if_neg (by omega)
          rw [hnx]
          exact ⟨rfl, rfl⟩
      refine ⟨g4, ?_, ?_, f3'.tr f4⟩
      · simp only [e201_0, e201_1, e201_4, e201_5, e201_8, e201_11, e201_13, e201_15, e201_16, e201_18, e201_19, e201_20, e201_23, e201_25, e201_26, e201_27, e201_30, e201_31, e201_34, e201_37, e201_41, e201_42, e201_45, e201_46, e201_48, e201_51, e201_53, e201_55, e201_58, e201_59, e201_62, e201_64, e201_65, e201_66, e201_68, e201_69, e201_70, e201_73, e201_74, e201_77, e201_80, e201_83, e201_84, e201_87, e201_89, e201_91, e201_94, e201_96, e201_98, e201_101, e201_103, e201_104, e201_105, e201_108, e201_109, e201_111, e201_113, e201_115, e201_118, e201_120, e201_122, e201_123, e201_125, e201_128, e201_129, e201_132, e201_133, e201_135, e201_136, e201_139, e201_142, e201_145, e201_148, e201_151, e201_153, zU_app, zbI_some, zbV_some, Int.reduceToNat, Int.reduceLE, Int.reduceLT, Int.reduceEq, Nat.reduceEqDiff, and_self, and_true, true_and, and_false, false_and, if_true, if_false, ne_eq, not_true_eq_false, not_false_eq_true, reduceCtorEq, eq_self, true_or, or_true, or_false, false_or, zbR_some, c2.1.1, e3]
        rw [zwr_id (by omega) (by omega), show (n : Int) + 1 = ((n + 1 : Nat) : Int) by omega, e4, (en _ 0 0).1]
      · rw [h4, (en 0 _ _).2]
        congr 1
        exact f3 10 0 0 (by omega)
    have c1 : Cx g1 i w ls := hC.fr f1'
    have h1 : HeAt g1 n s wy t := hH.fr f1
    have e1' : EvM (d + 4) 140 [.inr (5, 0), .inl (whoW w s : Int), .inr (1, 12), .inl (maW w n : Int), .inl r'] g = some (some (.inl (osW w n s t)), g1) := e1
    have h10 : g1 10 0 0 = g 10 0 0 := f1 10 0 0 (by unfold sLw sSk; omega)
    simp only [e201_0, e201_1, e201_4, e201_5, e201_8, e201_11, e201_13, e201_15, e201_16, e201_18, e201_19, e201_20, e201_23, e201_25, e201_26, e201_27, e201_30, e201_31, e201_34, e201_37, e201_41, e201_42, e201_45, e201_46, e201_48, e201_51, e201_53, e201_55, e201_58, e201_59, e201_62, e201_64, e201_65, e201_66, e201_68, e201_69, e201_70, e201_73, e201_74, e201_77, e201_80, e201_83, e201_84, e201_87, e201_89, e201_91, e201_94, e201_96, e201_98, e201_101, e201_103, e201_104, e201_105, e201_108, e201_109, e201_111, e201_113, e201_115, e201_118, e201_120, e201_122, e201_123, e201_125, e201_129, e201_132, e201_133, e201_135, e201_136, e201_139, e201_142, e201_145, e201_148, e201_151, e201_153, zU_app, zbI_some, zbV_some, Int.reduceToNat, Int.reduceLE, Int.reduceLT, Int.reduceEq, Nat.reduceEqDiff, and_self, and_true, true_and, and_false, false_and, if_true, if_false, ne_eq, not_true_eq_false, not_false_eq_true, reduceCtorEq, eq_self, true_or, or_true, or_false, false_or, zbR_some, hH.2.1, k1, e1']
    rw [show zwr (Int.tdiv (zwr (c * zwr (1000 - osW w n s t))) 1000) = chS c (osW w n s t) from hcj]
    rw [gtK, hkW]
    by_cases hq : osW w n s t ≤ m
    · rw [if_pos hq, if_neg (by omega)]
      obtain ⟨g2, e2, h2, f2⟩ := rest g1 m c1 h1
      exact ⟨g2, e2, by rw [h2, h10], f1'.tr f2⟩
    · rw [if_neg hq, if_pos (by omega)]
      have fu : Fr sTt g1 (zU g1 10 0 0 (n : Int)) := Fr.u (Or.inr (Or.inl rfl))
      obtain ⟨g2, e2, h2, f2⟩ := rest (zU g1 10 0 0 (n : Int)) (osW w n s t) (c1.fr fu) (h1.th 10 0 0 _ (by decide))
      exact ⟨g2, e2, by rw [h2, zU_eq], (f1'.tr fu).tr f2⟩
