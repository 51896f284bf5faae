/-! the model: seating -/
theorem gtW_rng {w : Nat → Int} : ∀ (k n : Nat) (s wy t c : Int), (0 ≤ c ∧ c ≤ 1000000) → 0 ≤ gtW w k n s wy t c ∧ gtW w k n s wy t c ≤ c
  | 0, n, s, wy, t, c, h => by rw [gtW]; exact chS_rng h (odW_rng _ _ _ _)
  | k + 1, n, s, wy, t, c, h => by
    rw [gtW]
    have h1 : 0 ≤ chS c (osW w n s t) ∧ chS c (osW w n s t) ≤ c := chS_rng h (odW_rng _ _ _ _)
    have := gtW_rng (w := w) k (nxN n) (seW w n s wy) (wyW w n wy) (tuW w n) (chS c (osW w n s t)) (by omega)
    omega
def ordS (n : Nat) : Nat → List Nat → List (List Nat)
  | 0, l => [l]
  | m + 1, l => (List.range' 0 n).flatMap (fun p => if p ∈ l then [] else ordS n m (l ++ [p]))
def stp (F : List Nat → Int) (q : Int × List Nat) (l : List Nat) : Int × List Nat := if q.1 < F l then (F l, l) else q
theorem stS_ord (n : Nat) (F : List Nat → Int) : ∀ (m : Nat) (l : List Nat) (q : Int × List Nat), stS n F m l q = (ordS n m l).foldl (stp F) q
  | 0, l, q => rfl
  | m + 1, l, q => by
    rw [stS, ordS, List.foldl_flatMap]
    congr 1
    funext q p
    by_cases h : p ∈ l
    · rw [if_pos h, if_pos h]; rfl
    · rw [if_neg h, if_neg h, stS_ord n F m]
theorem ordS_len (n : Nat) : ∀ (m : Nat) (l o : List Nat), o ∈ ordS n m l → o.length = l.length + m
  | 0, l, o, h => by
    rw [ordS, List.mem_singleton] at h
    rw [h]; rfl
  | m + 1, l, o, h => by
    rw [ordS, List.mem_flatMap] at h
    obtain ⟨p, -, hp⟩ := h
    by_cases q : p ∈ l
    · rw [if_pos q] at hp; cases hp
    · rw [if_neg q] at hp
      have := ordS_len n m _ o hp
      rw [List.length_append, List.length_singleton] at this
      omega
theorem stp_mem (F : List Nat → Int) : ∀ (L : List (List Nat)) (q : Int × List Nat), q.1 ≤ (L.foldl (stp F) q).1 ∧ (L.foldl (stp F) q = q ∨ (L.foldl (stp F) q).2 ∈ L)
  | [], q => ⟨Int.le_refl _, Or.inl rfl⟩
  | a :: L, q => by
    rw [List.foldl_cons]
    obtain ⟨h1, h2⟩ := stp_mem F L (stp F q a)
    by_cases h : q.1 < F a
    · have e : stp F q a = (F a, a) := if_pos h
      rw [e] at h1 h2 ⊢
      refine ⟨by omega, Or.inr ?_⟩
      rcases h2 with z | z
      · rw [z]; exact List.mem_cons_self
      · exact List.mem_cons_of_mem _ z
    · have e : stp F q a = q := if_neg h
      rw [e] at h1 h2 ⊢
      refine ⟨h1, ?_⟩
      rcases h2 with z | z
      · exact Or.inl z
      · exact Or.inr (List.mem_cons_of_mem _ z)
theorem ordS_ne : ∀ n, n < 7 → 2 ≤ n → (ordS n n []).isEmpty = false := by decide +kernel
def bsW (w : Nat → Int) (n v : Nat) : Int × List Nat := stS n (gtF w n v) n [] (-1, [])
theorem bsW_len {w : Nat → Int} {n v : Nat} (hn : 2 ≤ n ∧ n ≤ 6) : (bsW w n v).2.length = n := by
  unfold bsW
  rw [stS_ord]
  have hne := ordS_ne n (by omega) hn.1
  have hlen := ordS_len n n []
  cases hL : ordS n n [] with
  | nil => rw [hL] at hne; cases hne
  | cons a L =>
    rw [hL] at hlen
    rw [List.foldl_cons]
    have ha : (0 : Int) ≤ gtF w n v a := (gtW_rng _ _ _ _ _ _ (by decide)).1
    have e : stp (gtF w n v) (-1, []) a = (gtF w n v a, a) := if_pos (by show (-1 : Int) < gtF w n v a; omega)
    rw [e]
    rcases (stp_mem (gtF w n v) L (gtF w n v a, a)).2 with z | z
    · rw [z]
      have := hlen a List.mem_cons_self
      simpa using this
    · have := hlen _ (List.mem_cons_of_mem _ z)
      simpa using this
theorem m_stL1 (d n : Nat) (hn : n ≤ 8) (v x : Int) : ∀ (m i : Nat) (g : zG), i + m = n → ∃ g', Ev d 240 50 [some (.inr (12, 0)), some (.inl v), some (.inl x), some (.inl (n : Int)), some (.inl (i : Int))] [] g = Ev d 240 79 [some (.inr (12, 0)), some (.inl v), some (.inl x), some (.inl (n : Int)), some (.inl (n : Int))] [] g' ∧ Fr (fun k j y => k = 55 ∧ j = 0 ∧ i ≤ y) g g' ∧ ∀ y, i ≤ y → y < n → g' 55 0 y = g 46 0 (28 + y) := by
  intro m
  induction m with
  | zero =>
    intro i g h
    refine ⟨g, ?_, Fr.rf, fun y h1 h2 => by omega⟩
    rw [e240_50]
    simp only [e240_0, e240_1, e240_4, e240_6, e240_7, e240_8, e240_9, e240_10, e240_12, e240_15, e240_18, e240_19, e240_20, e240_22, e240_25, e240_28, e240_29, e240_32, e240_33, e240_35, e240_37, e240_38, e240_39, e240_42, e240_45, e240_46, e240_47, e240_48, e240_52, e240_53, e240_56, e240_57, e240_60, e240_62, e240_63, e240_66, e240_68, e240_70, e240_71, e240_72, e240_73, e240_76, e240_80, e240_81, e240_84, e240_85, e240_86, e240_87, e240_88, e240_91, e240_92, e240_96, e240_97, e240_100, e240_101, e240_104, e240_106, e240_108, e240_109, e240_110, e240_113, e240_115, e240_116, e240_117, e240_120, e240_123, e240_124, e240_127, e240_128, e240_131, e240_134, e240_135, e240_138, e240_139, e240_141, e240_142, e240_143, zU_app, zbI_some, zbV_some, Int.reduceToNat, Int.reduceLE, Int.reduceLT, Int.reduceEq, Nat.reduceEqDiff, and_self, and_true, true_and, and_false, false_and, if_true, if_false, ne_eq, not_true_eq_false, not_false_eq_true, reduceCtorEq]
    rw [if_pos (by omega), show i = n by omega]
  | succ m ih =>
    intro i g h
    obtain ⟨g', a1, a2, a3⟩ := ih (i + 1) (zU g 55 0 i (g 46 0 (28 + i))) (by omega)
    refine ⟨g', ?_, ?_, ?_⟩
    · rw [← a1, e240_50]
      simp only [e240_0, e240_1, e240_4, e240_6, e240_7, e240_8, e240_9, e240_10, e240_12, e240_15, e240_18, e240_19, e240_20, e240_22, e240_25, e240_28, e240_29, e240_32, e240_33, e240_35, e240_37, e240_38, e240_39, e240_42, e240_45, e240_46, e240_47, e240_48, e240_52, e240_53, e240_56, e240_57, e240_60, e240_62, e240_63, e240_66, e240_68, e240_70, e240_71, e240_72, e240_73, e240_76, e240_80, e240_81, e240_84, e240_85, e240_86, e240_87, e240_88, e240_91, e240_92, e240_96, e240_97, e240_100, e240_101, e240_104, e240_106, e240_108, e240_109, e240_110, e240_113, e240_115, e240_116, e240_117, e240_120, e240_123, e240_124, e240_127, e240_128, e240_131, e240_134, e240_135, e240_138, e240_139, e240_141, e240_142, e240_143, zU_app, zbI_some, zbV_some, Int.reduceToNat, Int.reduceLE, Int.reduceLT, Int.reduceEq, Nat.reduceEqDiff, and_self, and_true, true_and, and_false, false_and, if_true, if_false, ne_eq, not_true_eq_false, not_false_eq_true, reduceCtorEq]
      rw [if_neg (by omega), zwr_id (x := 28 + (i : Int)) (by omega) (by omega), if_pos (by omega), if_pos (by omega), show (28 + (i : Int)).toNat = 28 + i by omega, Int.toNat_natCast, zwr_id (by omega) (by omega)]
      rfl
    · intro k j y hy
      rw [a2 k j y (by omega), zU_ne (by omega)]
    · intro y h1 h2
      by_cases e : y = i
      · subst e
        rw [a2 55 0 y (by omega), zU_eq]
      · rw [a3 y (by omega) h2, zU_ne (by omega)]
theorem m_stL2 (d n : Nat) (hn : n ≤ 8) (v x : Int) : ∀ (m i : Nat) (g : zG), i + m = n → ∃ g', Ev d 240 94 [some (.inr (12, 0)), some (.inl v), some (.inl x), some (.inl (n : Int)), some (.inl (i : Int))] [] g = Ev d 240 123 [some (.inr (12, 0)), some (.inl v), some (.inl x), some (.inl (n : Int)), some (.inl (n : Int))] [] g' ∧ Fr (fun k j y => k = 46 ∧ j = 0 ∧ 28 + i ≤ y ∧ y < 28 + n) g g' ∧ ∀ y, i ≤ y → y < n → g' 46 0 (28 + y) = g 55 0 y := by
  intro m
  induction m with
  | zero =>
    intro i g h
    refine ⟨g, ?_, Fr.rf, fun y h1 h2 => by omega⟩
    rw [e240_94]
    simp only [e240_0, e240_1, e240_4, e240_6, e240_7, e240_8, e240_9, e240_10, e240_12, e240_15, e240_18, e240_19, e240_20, e240_22, e240_25, e240_28, e240_29, e240_32, e240_33, e240_35, e240_37, e240_38, e240_39, e240_42, e240_45, e240_46, e240_47, e240_48, e240_52, e240_53, e240_56, e240_57, e240_60, e240_62, e240_63, e240_66, e240_68, e240_70, e240_71, e240_72, e240_73, e240_76, e240_79, e240_80, e240_81, e240_84, e240_85, e240_86, e240_87, e240_88, e240_91, e240_92, e240_96, e240_97, e240_100, e240_101, e240_104, e240_106, e240_108, e240_109, e240_110, e240_113, e240_115, e240_116, e240_117, e240_120, e240_124, e240_127, e240_128, e240_131, e240_134, e240_135, e240_138, e240_139, e240_141, e240_142, e240_143, zU_app, zbI_some, zbV_some, Int.reduceToNat, Int.reduceLE, Int.reduceLT, Int.reduceEq, Nat.reduceEqDiff, and_self, and_true, true_and, and_false, false_and, if_true, if_false, ne_eq, not_true_eq_false, not_false_eq_true, reduceCtorEq]
    rw [if_pos (by omega), show i = n by omega]
  | succ m ih =>
    intro i g h
    obtain ⟨g', a1, a2, a3⟩ := ih (i + 1) (zU g 46 0 (28 + i) (g 55 0 i)) (by omega)
    refine ⟨g', ?_, ?_, ?_⟩
    · rw [← a1, e240_94]
      simp only [e240_0, e240_1, e240_4, e240_6, e240_7, e240_8, e240_9, e240_10, e240_12, e240_15, e240_18, e240_19, e240_20, e240_22, e240_25, e240_28, e240_29, e240_32, e240_33, e240_35, e240_37, e240_38, e240_39, e240_42, e240_45, e240_46, e240_47, e240_48, e240_52, e240_53, e240_56, e240_57, e240_60, e240_62, e240_63, e240_66, e240_68, e240_70, e240_71, e240_72, e240_73, e240_76, e240_79, e240_80, e240_81, e240_84, e240_85, e240_86, e240_87, e240_88, e240_91, e240_92, e240_96, e240_97, e240_100, e240_101, e240_104, e240_106, e240_108, e240_109, e240_110, e240_113, e240_115, e240_116, e240_117, e240_120, e240_124, e240_127, e240_128, e240_131, e240_134, e240_135, e240_138, e240_139, e240_141, e240_142, e240_143, zU_app, zbI_some, zbV_some, Int.reduceToNat, Int.reduceLE, Int.reduceLT, Int.reduceEq, Nat.reduceEqDiff, and_self, and_true, true_and, and_false, false_and, if_true, if_false, ne_eq, not_true_eq_false, not_false_eq_true, reduceCtorEq]
      rw [if_neg (by omega), zwr_id (x := 28 + (i : Int)) (by omega) (by omega), if_pos (by omega), if_pos (by omega), show (28 + (i : Int)).toNat = 28 + i by omega, Int.toNat_natCast, zwr_id (by omega) (by omega)]
      rfl
    · intro k j y hy
      rw [a2 k j y (by omega), zU_ne (by omega)]
    · intro y h1 h2
      by_cases e : y = i
      · subst e
        rw [a2 46 0 _ (by omega), zU_eq]
      · rw [a3 y (by omega) h2, zU_ne (by omega)]
def aSeat (w : Nat → Int) (v x : Int) : Int := if (2 ≤ w 17 ∧ w 17 ≤ 6) ∧ (1 ≤ v ∧ v ≤ 60) ∧ (x = 0 ∨ (10 ≤ x ∧ x ≤ 9 + w 17)) then (if x = 0 then (bsW w (w 17).toNat v.toNat).1 else ((bsW w (w 17).toNat v.toNat).2.getD (x - 10).toNat 0 : Int)) else -1
def sSt : Nat → Nat → Nat → Prop := fun k j i => sCur k j i ∨ (k = 55 ∧ j = 0) ∨ (k = 56 ∧ j = 0) ∨ (k = 12 ∧ j = 0 ∧ i = 30)
theorem m_seatN {w : Nat → Int} (d : Nat) (v x : Int) (g : zG) (hw : g 46 0 = w) (h17 : 0 ≤ w 17 ∧ w 17 ≤ 8) (h : ¬ ((2 ≤ w 17 ∧ w 17 ≤ 6) ∧ (1 ≤ v ∧ v ≤ 60) ∧ (x = 0 ∨ (10 ≤ x ∧ x ≤ 9 + w 17)))) : EvM (d + 1) 240 [.inr (12, 0), .inl v, .inl x] g = some (some (.inl (-1)), g) := by
  rw [en240]
  simp only [e240_0, e240_1, e240_4, e240_6, e240_7, e240_8, e240_9, e240_10, e240_12, e240_15, e240_18, e240_19, e240_20, e240_22, e240_25, e240_28, e240_29, e240_32, e240_33, e240_35, e240_37, e240_38, e240_39, e240_42, e240_45, e240_46, e240_48, e240_52, e240_53, e240_56, e240_57, e240_60, e240_62, e240_63, e240_66, e240_68, e240_70, e240_71, e240_72, e240_73, e240_76, e240_79, e240_80, e240_81, e240_84, e240_85, e240_86, e240_87, e240_88, e240_91, e240_92, e240_96, e240_97, e240_100, e240_101, e240_104, e240_106, e240_108, e240_109, e240_110, e240_113, e240_115, e240_116, e240_117, e240_120, e240_123, e240_124, e240_127, e240_128, e240_131, e240_134, e240_135, e240_138, e240_139, e240_141, e240_142, e240_143, zU_app, zbI_some, zbV_some, Int.reduceToNat, Int.reduceLE, Int.reduceLT, Int.reduceEq, Nat.reduceEqDiff, and_self, and_true, true_and, and_false, false_and, if_true, if_false, ne_eq, not_true_eq_false, not_false_eq_true, reduceCtorEq, hw, m_isIn, zwr_id (x := 9 + w 17) (by omega) (by omega)]
  by_cases h1 : 2 ≤ w 17 ∧ w 17 ≤ 6
  · rw [zb_t h1, if_neg (by decide)]
    by_cases h2 : 1 ≤ v ∧ v ≤ 60
    · rw [zb_t h2, if_neg (by decide), if_neg (fun q => h ⟨h1, h2, Or.inl q⟩), zb_f (fun q => h ⟨h1, h2, Or.inr q⟩)]
      simp
    · rw [zb_f h2, if_pos rfl]
  · rw [zb_f h1, if_pos rfl]
