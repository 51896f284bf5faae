/-! THE CLASS: fewest -/
def TkOk (g : zG) (k : Nat) : Prop := ∀ c, k ≤ c → c < 29 → 0 ≤ g 45 0 c ∧ g 45 0 c ≤ 20000
theorem k_tb1 (d v : Nat) : ∀ (m k : Nat) (g : zG), k + m = 10 → TkOk g k → ∃ g', Ev d 228 7 [some (.inr (10, 0)), some (.inl (v : Int)), some (.inl (fgN 4 v 0 : Int)), some (.inl (k : Int))] [] g = Ev d 228 33 [some (.inr (10, 0)), some (.inl (v : Int)), some (.inl (fgN 4 v 0 : Int)), some (.inl 10)] [] g' ∧ Fr (fun q a x => q = 45 ∧ a = 0 ∧ k ≤ x ∧ x < 10) g g' ∧ ∀ c, k ≤ c → c < 10 → g' 45 0 c = g 45 0 c + if hasF v (c : Int) = true then 1 else 0 := by
  intro m
  induction m with
  | zero =>
    intro k g hk hT
    have hk : k = 10 := by omega
    subst hk
    refine ⟨g, ?_, Fr.rf, fun c h1 h2 => by omega⟩
    rw [e228_7]
    simp (disch := omega) only [e228_0, e228_1, e228_4, e228_5, e228_6, e228_8, e228_10, e228_13, e228_14, e228_17, e228_18, e228_19, e228_20, e228_21, e228_22, e228_23, e228_24, e228_25, e228_26, e228_27, e228_30, e228_34, e228_36, e228_38, e228_41, e228_42, e228_43, e228_44, e228_47, e228_48, e228_51, e228_53, e228_54, e228_55, e228_56, e228_57, e228_58, e228_59, e228_60, e228_61, e228_62, e228_65, e228_68, zU_app, zbI_some, zbV_some, Int.reduceToNat, Int.reduceLE, Int.reduceLT, Int.reduceEq, Nat.reduceEqDiff, and_self, and_true, true_and, and_false, false_and, if_true, if_false, ne_eq, not_true_eq_false, not_false_eq_true, reduceCtorEq, eq_self, true_or, or_true, or_false, false_or, zbR_some, zwr_id, if_pos, if_neg]
    rfl
  | succ m ih =>
    intro k g hk hT
    have hl := fgN_lt 4 v 0 (by omega)
    have hb : zand (zshr (fgN 4 v 0 : Int) (k : Int)) 1 = if hasF v (k : Int) = true then 1 else 0 := by
      rw [zbit (by omega) (by omega), fgN_has]
    have ht := hT k (by omega) (by omega)
    have hz : zwr (g 45 0 k + if hasF v (k : Int) = true then 1 else 0) = g 45 0 k + if hasF v (k : Int) = true then 1 else 0 := zwr_id (by split <;> omega) (by split <;> omega)
    obtain ⟨g1, e1, f1, h1⟩ := ih (k + 1) (zU g 45 0 k (g 45 0 k + if hasF v (k : Int) = true then 1 else 0)) (by omega) (fun c h1 h2 => by
      rw [zU_ne (by omega)]; exact hT c (by omega) h2)
    refine ⟨g1, ?_, (Fr.u (by omega)).tr (f1.up (fun q a x h => by omega)), fun c h2 h3 => ?_⟩
    · rw [← e1, e228_7]
      simp (disch := omega) only [e228_0, e228_1, e228_4, e228_5, e228_6, e228_8, e228_10, e228_13, e228_14, e228_17, e228_18, e228_19, e228_20, e228_21, e228_22, e228_23, e228_24, e228_25, e228_26, e228_27, e228_30, e228_34, e228_36, e228_38, e228_41, e228_42, e228_43, e228_44, e228_47, e228_48, e228_51, e228_53, e228_54, e228_55, e228_56, e228_57, e228_58, e228_59, e228_60, e228_61, e228_62, e228_65, e228_68, zU_app, zbI_some, zbV_some, Int.reduceToNat, Int.reduceLE, Int.reduceLT, Int.reduceEq, Nat.reduceEqDiff, and_self, and_true, true_and, and_false, false_and, if_true, if_false, ne_eq, not_true_eq_false, not_false_eq_true, reduceCtorEq, eq_self, true_or, or_true, or_false, false_or, zbR_some, zwr_id, if_pos, if_neg, hb, hz, Int.toNat_natCast]
      rfl
    · by_cases e : c = k
      · subst e
        rw [f1 45 0 c (by omega), zU_eq]
      · rw [h1 c (by omega) h3, zU_ne (by omega)]
theorem k_tb2 (d v : Nat) (u : Option zV) : ∀ (m b : Nat) (g : zG), b + m = 21 → 2 ≤ b → TkOk g (8 + b) → ∃ g', Ev d 228 35 [some (.inr (10, 0)), some (.inl (v : Int)), u, some (.inl (b : Int))] [] g = some (none, g') ∧ Fr (fun q a x => q = 45 ∧ a = 0 ∧ 8 + b ≤ x ∧ x < 29) g g' ∧ ∀ c, 8 + b ≤ c → c < 29 → g' 45 0 c = g 45 0 c + if (v : Int) % ((c : Int) - 8) = 0 then 1 else 0 := by
  intro m
  induction m with
  | zero =>
    intro b g hb h2 hT
    refine ⟨g, ?_, Fr.rf, fun c h1 h2 => by omega⟩
    rw [e228_35]
    simp (disch := omega) only [e228_0, e228_1, e228_4, e228_5, e228_6, e228_8, e228_10, e228_13, e228_14, e228_17, e228_18, e228_19, e228_20, e228_21, e228_22, e228_23, e228_24, e228_25, e228_26, e228_27, e228_30, e228_33, e228_34, e228_36, e228_38, e228_41, e228_42, e228_43, e228_44, e228_47, e228_48, e228_51, e228_53, e228_54, e228_55, e228_56, e228_57, e228_58, e228_59, e228_60, e228_61, e228_62, e228_65, e228_68, zU_app, zbI_some, zbV_some, Int.reduceToNat, Int.reduceLE, Int.reduceLT, Int.reduceEq, Nat.reduceEqDiff, and_self, and_true, true_and, and_false, false_and, if_true, if_false, ne_eq, not_true_eq_false, not_false_eq_true, reduceCtorEq, eq_self, true_or, or_true, or_false, false_or, zbR_some, zwr_id, if_pos, if_neg]
  | succ m ih =>
    intro b g hb h2 hT
    have ht := hT (8 + b) (by omega) (by omega)
    have et : Int.tmod (v : Int) (b : Int) = (v : Int) % (b : Int) := Int.tmod_eq_emod_of_nonneg (by omega)
    have en : (10 + (b : Int) - 2).toNat = 8 + b := by omega
    have z1 : zwr (10 + (b : Int)) = 10 + (b : Int) := zwr_id (by omega) (by omega)
    have z2 : zwr (10 + (b : Int) - 2) = 10 + (b : Int) - 2 := zwr_id (by omega) (by omega)
    have z3 : zwr (g 45 0 (8 + b) + 1) = g 45 0 (8 + b) + 1 := zwr_id (by omega) (by omega)
    have z4 : zwr ((b : Int) + 1) = ((b + 1 : Nat) : Int) := by rw [zwr_id (by omega) (by omega)]; omega
    by_cases q : (v : Int) % (b : Int) = 0
    · obtain ⟨g1, e1, f1, h1⟩ := ih (b + 1) (zU g 45 0 (8 + b) (g 45 0 (8 + b) + 1)) (by omega) (by omega) (fun c h1 h2 => by
        rw [zU_ne (by omega)]; exact hT c (by omega) h2)
      refine ⟨g1, ?_, (Fr.u (by omega)).tr (f1.up (fun q a x h => by omega)), fun c h2 h3 => ?_⟩
      · rw [← e1, e228_35]
        simp only [e228_0, e228_1, e228_4, e228_5, e228_6, e228_8, e228_10, e228_13, e228_14, e228_17, e228_18, e228_19, e228_20, e228_21, e228_22, e228_23, e228_24, e228_25, e228_26, e228_27, e228_30, e228_33, e228_34, e228_36, e228_38, e228_41, e228_42, e228_43, e228_44, e228_47, e228_48, e228_51, e228_53, e228_54, e228_55, e228_56, e228_57, e228_58, e228_59, e228_60, e228_61, e228_62, e228_65, e228_68, zU_app, zbI_some, zbV_some, Int.reduceToNat, Int.reduceLE, Int.reduceLT, Int.reduceEq, Nat.reduceEqDiff, and_self, and_true, true_and, and_false, false_and, if_true, if_false, ne_eq, not_true_eq_false, not_false_eq_true, reduceCtorEq, eq_self, true_or, or_true, or_false, false_or, zbR_some, et, z1, z2, en, z3, z4]
        rw [if_neg (by omega), if_neg (by omega), if_neg (fun z => z q), if_pos (by omega), if_pos (by omega)]
      · by_cases e : c = 8 + b
        · subst e
          rw [f1 45 0 _ (by omega), zU_eq, show (((8 + b : Nat) : Int) - 8) = (b : Int) by omega, if_pos q]
        · rw [h1 c (by omega) h3, zU_ne (by omega)]
    · obtain ⟨g1, e1, f1, h1⟩ := ih (b + 1) g (by omega) (by omega) (fun c h1 h2 => hT c (by omega) h2)
      refine ⟨g1, ?_, f1.up (fun q a x h => by omega), fun c h2 h3 => ?_⟩
      · rw [← e1, e228_35]
        simp only [e228_0, e228_1, e228_4, e228_5, e228_6, e228_8, e228_10, e228_13, e228_14, e228_17, e228_18, e228_19, e228_20, e228_21, e228_22, e228_23, e228_24, e228_25, e228_26, e228_27, e228_30, e228_33, e228_34, e228_36, e228_38, e228_41, e228_42, e228_43, e228_44, e228_47, e228_48, e228_51, e228_53, e228_54, e228_55, e228_56, e228_57, e228_58, e228_59, e228_60, e228_61, e228_62, e228_65, e228_68, zU_app, zbI_some, zbV_some, Int.reduceToNat, Int.reduceLE, Int.reduceLT, Int.reduceEq, Nat.reduceEqDiff, and_self, and_true, true_and, and_false, false_and, if_true, if_false, ne_eq, not_true_eq_false, not_false_eq_true, reduceCtorEq, eq_self, true_or, or_true, or_false, false_or, zbR_some, et, z1, z2, en, z3, z4]
        rw [if_neg (by omega), if_neg (by omega), if_pos q]
      · by_cases e : c = 8 + b
        · subst e
          rw [f1 45 0 _ (by omega), show (((8 + b : Nat) : Int) - 8) = (b : Int) by omega, if_neg q, Int.add_zero]
        · rw [h1 c (by omega) h3]
theorem hit_ca (c v : Nat) : hit (caS c) (caN c) v = if c < 10 then hasF v (c : Int) else decide ((v : Int) % ((c : Int) - 8) = 0) := by
  unfold hit caS caN
  by_cases h : c < 10
  · rw [if_pos h, if_pos h, if_pos rfl, if_pos h]
  · rw [if_neg h, if_neg h, if_neg (by decide), if_neg h]
theorem k_takeBy (d v : Nat) (hv : v < 10000) (g : zG) (hT : TkOk g 0) : ∃ g', EvM (d + 1) 228 [.inr (10, 0), .inl (v : Int)] g = some (none, g') ∧ Fr (fun q a _ => q = 45 ∧ a = 0) g g' ∧ ∀ c, c < 29 → g' 45 0 c = g 45 0 c + if hit (caS c) (caN c) v = true then 1 else 0 := by
  obtain ⟨g1, e1, f1, h1⟩ := k_tb1 (d + 1) v 10 0 g (by omega) hT
  obtain ⟨g2, e2, f2, h2⟩ := k_tb2 (d + 1) v (some (.inl (fgN 4 v 0 : Int))) 19 2 g1 (by omega) (by omega) (fun c q1 q2 => by rw [f1 45 0 c (by omega)]; exact hT c (by omega) q2)
  refine ⟨g2, ?_, (f1.up (fun q a x h => by omega)).tr (f2.up (fun q a x h => by omega)), fun c hc => ?_⟩
  · rw [en228]
    simp only [e228_0, e228_1, e228_4, e228_5, e228_6, e228_8, e228_10, e228_13, e228_14, e228_17, e228_18, e228_19, e228_20, e228_21, e228_22, e228_23, e228_24, e228_25, e228_26, e228_27, e228_30, e228_34, e228_36, e228_38, e228_41, e228_42, e228_43, e228_44, e228_47, e228_48, e228_51, e228_53, e228_54, e228_55, e228_56, e228_57, e228_58, e228_59, e228_60, e228_61, e228_62, e228_65, e228_68, zU_app, zbI_some, zbV_some, Int.reduceToNat, Int.reduceLE, Int.reduceLT, Int.reduceEq, Nat.reduceEqDiff, and_self, and_true, true_and, and_false, false_and, if_true, if_false, ne_eq, not_true_eq_false, not_false_eq_true, reduceCtorEq, eq_self, true_or, or_true, or_false, false_or, zbR_some, k_figuresOf d v g hv]
    rw [show (0 : Int) = ((0 : Nat) : Int) from rfl, e1]
    simp only [e228_0, e228_1, e228_4, e228_5, e228_6, e228_8, e228_10, e228_13, e228_14, e228_17, e228_18, e228_19, e228_20, e228_21, e228_22, e228_23, e228_24, e228_25, e228_26, e228_27, e228_30, e228_33, e228_34, e228_36, e228_38, e228_41, e228_42, e228_43, e228_44, e228_47, e228_48, e228_51, e228_53, e228_54, e228_55, e228_56, e228_57, e228_58, e228_59, e228_60, e228_61, e228_62, e228_65, e228_68]
    exact e2
  · rw [hit_ca]
    by_cases h : c < 10
    · rw [if_pos h, f2 45 0 c (by omega), h1 c (by omega) h]
    · rw [if_neg h, h2 c (by omega) hc, f1 45 0 c (by omega)]
      simp only [decide_eq_true_eq]
/-- how many plain ones a rule takes, and how many there are -/
def tkW (w : Nat → Int) (so nu : Int) : Nat → Nat → Int → Int
  | 0, _, n => n
  | k + 1, v, n => tkW w so nu k (v + 1) (n + if maW w v = 0 ∧ hit so nu v = true then 1 else 0)
def pnW (w : Nat → Int) : Nat → Nat → Int → Int
  | 0, _, n => n
  | k + 1, v, n => pnW w k (v + 1) (n + if maW w v = 0 then 1 else 0)
theorem pw_tk (w : Nat → Int) (so nu : Int) : ∀ (k v : Nat) (n t : Int), pwW w so nu k v n + tkW w so nu k v t = pnW w k v (n + t)
  | 0, v, n, t => rfl
  | k + 1, v, n, t => by
    rw [pwW, tkW, pnW, pw_tk w so nu k]
    congr 1
    by_cases h : maW w v = 0
    · cases hh : hit so nu v <;> simp [h] <;> omega
    · simp [h]
theorem k_trL {w : Nat → Int} (hX : RuX w) (d : Nat) (a : Int) (b : Nat) (hb : b < 10000) (u : Option zV) : ∀ (k v : Nat) (n : Int) (t : Nat → Int) (g : zG), v + k = b + 1 → 0 < v → RuAt g 0 w → g 10 0 1 = n → (∀ c, c < 29 → g 45 0 c = t c) → (0 ≤ n ∧ n ≤ v) → (∀ c, c < 29 → 0 ≤ t c ∧ t c ≤ v) → ∃ g', Ev (d + 2) 227 16 [some (.inr (10, 0)), some (.inr (6, 0)), some (.inl a), some (.inl (b : Int)), some (.inl (v : Int)), u] [] g = Ev (d + 2) 227 53 [some (.inr (10, 0)), some (.inr (6, 0)), some (.inl a), some (.inl (b : Int)), some (.inl ((b + 1 : Nat) : Int)), u] [] g' ∧ Fr (fun q a x => (q = 45 ∧ a = 0) ∨ (q = 10 ∧ a = 0 ∧ x = 1)) g g' ∧ g' 10 0 1 = pnW w k v n ∧ (0 ≤ pnW w k v n ∧ pnW w k v n ≤ b + 1) ∧ ∀ c, c < 29 → g' 45 0 c = tkW w (caS c) (caN c) k v (t c) ∧ 0 ≤ g' 45 0 c ∧ g' 45 0 c ≤ b + 1 := by
  intro k
  induction k with
  | zero =>
    intro v n t g hv h0 hA hn ht bn bt
    have hv : v = b + 1 := by omega
    subst hv
    refine ⟨g, ?_, Fr.rf, hn, by simp only [pnW]; omega, fun c hc => ⟨ht c hc, by have := bt c hc; rw [ht c hc]; omega⟩⟩
    rw [e227_16]
    simp (disch := omega) only [e227_0, e227_1, e227_2, e227_5, e227_6, e227_9, e227_10, e227_13, e227_14, e227_18, e227_19, e227_22, e227_23, e227_25, e227_28, e227_31, e227_32, e227_33, e227_36, e227_37, e227_38, e227_41, e227_42, e227_44, e227_47, e227_50, e227_54, e227_56, e227_57, e227_61, e227_63, e227_66, e227_67, e227_70, e227_72, e227_73, e227_74, e227_77, e227_79, e227_80, e227_83, e227_85, e227_87, e227_90, e227_93, e227_94, e227_95, e227_98, e227_99, e227_102, e227_104, e227_105, e227_106, e227_109, e227_110, e227_112, e227_114, e227_117, e227_118, e227_121, e227_122, e227_125, e227_126, e227_128, e227_130, e227_133, e227_135, e227_138, e227_140, e227_142, e227_143, e227_144, e227_145, e227_148, zU_app, zbI_some, zbV_some, Int.reduceToNat, Int.reduceLE, Int.reduceLT, Int.reduceEq, Nat.reduceEqDiff, and_self, and_true, true_and, and_false, false_and, if_true, if_false, ne_eq, not_true_eq_false, not_false_eq_true, reduceCtorEq, eq_self, true_or, or_true, or_false, false_or, zbR_some, zwr_id, if_pos, if_neg]
  | succ k ih =>
    intro v n t g hv h0 hA hn ht bn bt
    have hm := k_mask d v 0 g hA hX (by omega)
    have z4 : zwr ((v : Int) + 1) = ((v + 1 : Nat) : Int) := by rw [zwr_id (by omega) (by omega)]; omega
    by_cases hz : maW w v = 0
    · have zn : zwr (n + 1) = n + 1 := zwr_id (by omega) (by omega)
      obtain ⟨g1, e1, f1, h1⟩ := k_takeBy d v (by omega) (zU g 10 0 1 (n + 1)) (fun c q1 q2 => by
        rw [zU_ne (by omega), ht c q2]; have := bt c q2; omega)
      have ft : Fr (fun q a x => (q = 45 ∧ a = 0) ∨ (q = 10 ∧ a = 0 ∧ x = 1)) g g1 := (Fr.u (by omega)).tr (f1.up (fun q a x h => by omega))
      obtain ⟨g2, e2, f2, h2, h3, h4⟩ := ih (v + 1) (n + 1) (fun c => t c + if hit (caS c) (caN c) v = true then 1 else 0) g1 (by omega) (by omega) (hA.on (fun k x q => ft k 0 x (by omega))) (by rw [f1 10 0 1 (by omega), zU_eq]) (fun c hc => by
        show g1 45 0 c = t c + _
        rw [h1 c hc, zU_ne (by omega), ht c hc]) (by omega) (fun c hc => by
        have := bt c hc
        show 0 ≤ t c + (if hit (caS c) (caN c) v = true then 1 else 0) ∧ t c + (if hit (caS c) (caN c) v = true then 1 else 0) ≤ ((v + 1 : Nat) : Int)
        split <;> omega)
      refine ⟨g2, ?_, ft.tr f2, ?_, ?_, fun c hc => ?_⟩
      · rw [← e2, e227_16]
        simp only [e227_0, e227_1, e227_2, e227_5, e227_6, e227_9, e227_10, e227_13, e227_14, e227_18, e227_19, e227_22, e227_23, e227_25, e227_28, e227_31, e227_32, e227_33, e227_36, e227_37, e227_38, e227_41, e227_42, e227_44, e227_47, e227_50, e227_54, e227_56, e227_57, e227_61, e227_63, e227_66, e227_67, e227_70, e227_72, e227_73, e227_74, e227_77, e227_79, e227_80, e227_83, e227_85, e227_87, e227_90, e227_93, e227_94, e227_95, e227_98, e227_99, e227_102, e227_104, e227_105, e227_106, e227_109, e227_110, e227_112, e227_114, e227_117, e227_118, e227_121, e227_122, e227_125, e227_126, e227_128, e227_130, e227_133, e227_135, e227_138, e227_140, e227_142, e227_143, e227_144, e227_145, e227_148, zU_app, zbI_some, zbV_some, Int.reduceToNat, Int.reduceLE, Int.reduceLT, Int.reduceEq, Nat.reduceEqDiff, and_self, and_true, true_and, and_false, false_and, if_true, if_false, ne_eq, not_true_eq_false, not_false_eq_true, reduceCtorEq, eq_self, true_or, or_true, or_false, false_or, zbR_some, hm, hn, zn, e1, z4]
        rw [if_neg (by omega), if_neg (by omega)]
      · rw [pnW, if_pos hz]; exact h2
      · rw [pnW, if_pos hz]; exact h3
      · obtain ⟨q1, q2⟩ := h4 c hc
        refine ⟨?_, q2⟩
        rw [q1, tkW]
        simp only [hz, true_and]
    · obtain ⟨g2, e2, f2, h2, h3, h4⟩ := ih (v + 1) n t g (by omega) (by omega) hA hn ht (by omega) (fun c hc => by have := bt c hc; omega)
      refine ⟨g2, ?_, f2, ?_, ?_, fun c hc => ?_⟩
      · rw [← e2, e227_16]
        simp only [e227_0, e227_1, e227_2, e227_5, e227_6, e227_9, e227_10, e227_13, e227_14, e227_18, e227_19, e227_22, e227_23, e227_25, e227_28, e227_31, e227_32, e227_33, e227_36, e227_37, e227_38, e227_41, e227_42, e227_44, e227_47, e227_50, e227_54, e227_56, e227_57, e227_61, e227_63, e227_66, e227_67, e227_70, e227_72, e227_73, e227_74, e227_77, e227_79, e227_80, e227_83, e227_85, e227_87, e227_90, e227_93, e227_94, e227_95, e227_98, e227_99, e227_102, e227_104, e227_105, e227_106, e227_109, e227_110, e227_112, e227_114, e227_117, e227_118, e227_121, e227_122, e227_125, e227_126, e227_128, e227_130, e227_133, e227_135, e227_138, e227_140, e227_142, e227_143, e227_144, e227_145, e227_148, zU_app, zbI_some, zbV_some, Int.reduceToNat, Int.reduceLE, Int.reduceLT, Int.reduceEq, Nat.reduceEqDiff, and_self, and_true, true_and, and_false, false_and, if_true, if_false, ne_eq, not_true_eq_false, not_false_eq_true, reduceCtorEq, eq_self, true_or, or_true, or_false, false_or, zbR_some, hm, hn, z4]
        rw [if_neg (by omega), if_pos (by omega)]
      · rw [pnW, if_neg hz, Int.add_zero]; exact h2
      · rw [pnW, if_neg hz, Int.add_zero]; exact h3
      · obtain ⟨q1, q2⟩ := h4 c hc
        refine ⟨?_, q2⟩
        rw [q1, tkW, if_neg (fun z => hz z.1), Int.add_zero]
/-- the choice with most -/
def bmS (t : Nat → Int) : Nat → Nat → Nat → Nat
  | 0, _, b => b
  | m + 1, c, b => bmS t m (c + 1) (if t b < t c then c else b)
theorem bmS_lt (t : Nat → Int) : ∀ (m c b : Nat), c + m = 29 → b < 29 → bmS t m c b < 29
  | 0, c, b, _, hb => hb
  | m + 1, c, b, h, hb => bmS_lt t m (c + 1) _ (by omega) (by split <;> omega)
theorem k_bmL (d : Nat) (r x y : Option zV) (g : zG) : ∀ (m c b : Nat), c + m = 29 → b < 29 → Ev d 227 59 [some (.inr (10, 0)), r, x, y, some (.inl (b : Int)), some (.inl (c : Int))] [] g = Ev d 227 93 [some (.inr (10, 0)), r, x, y, some (.inl (bmS (g 45 0) m c b : Int)), some (.inl 29)] [] g := by
  intro m
  induction m with
  | zero =>
    intro c b hc hb
    have hc : c = 29 := by omega
    subst hc
    rw [e227_59]
    simp (disch := omega) only [e227_0, e227_1, e227_2, e227_5, e227_6, e227_9, e227_10, e227_13, e227_14, e227_18, e227_19, e227_22, e227_23, e227_25, e227_28, e227_31, e227_32, e227_33, e227_36, e227_37, e227_38, e227_41, e227_42, e227_44, e227_47, e227_50, e227_53, e227_54, e227_56, e227_57, e227_61, e227_63, e227_66, e227_67, e227_70, e227_72, e227_73, e227_74, e227_77, e227_79, e227_80, e227_83, e227_85, e227_87, e227_90, e227_94, e227_95, e227_98, e227_99, e227_102, e227_104, e227_105, e227_106, e227_109, e227_110, e227_112, e227_114, e227_117, e227_118, e227_121, e227_122, e227_125, e227_126, e227_128, e227_130, e227_133, e227_135, e227_138, e227_140, e227_142, e227_143, e227_144, e227_145, e227_148, zU_app, zbI_some, zbV_some, Int.reduceToNat, Int.reduceLE, Int.reduceLT, Int.reduceEq, Nat.reduceEqDiff, and_self, and_true, true_and, and_false, false_and, if_true, if_false, ne_eq, not_true_eq_false, not_false_eq_true, reduceCtorEq, eq_self, true_or, or_true, or_false, false_or, zbR_some, zwr_id, if_pos, if_neg]
    rfl
  | succ m ih =>
    intro c b hc hb
    rw [e227_59]
    simp (disch := omega) only [e227_0, e227_1, e227_2, e227_5, e227_6, e227_9, e227_10, e227_13, e227_14, e227_18, e227_19, e227_22, e227_23, e227_25, e227_28, e227_31, e227_32, e227_33, e227_36, e227_37, e227_38, e227_41, e227_42, e227_44, e227_47, e227_50, e227_53, e227_54, e227_56, e227_57, e227_61, e227_63, e227_66, e227_67, e227_70, e227_72, e227_73, e227_74, e227_77, e227_79, e227_80, e227_83, e227_85, e227_87, e227_90, e227_94, e227_95, e227_98, e227_99, e227_102, e227_104, e227_105, e227_106, e227_109, e227_110, e227_112, e227_114, e227_117, e227_118, e227_121, e227_122, e227_125, e227_126, e227_128, e227_130, e227_133, e227_135, e227_138, e227_140, e227_142, e227_143, e227_144, e227_145, e227_148, zU_app, zbI_some, zbV_some, Int.reduceToNat, Int.reduceLE, Int.reduceLT, Int.reduceEq, Nat.reduceEqDiff, and_self, and_true, true_and, and_false, false_and, if_true, if_false, ne_eq, not_true_eq_false, not_false_eq_true, reduceCtorEq, eq_self, true_or, or_true, or_false, false_or, zbR_some, zwr_id, if_pos, if_neg, Int.toNat_natCast]
    rw [bmS, show (c : Int) + 1 = ((c + 1 : Nat) : Int) by omega]
    by_cases h : g 45 0 b < g 45 0 c
    · rw [if_neg (by omega), if_pos h]
      exact ih (c + 1) c (by omega) (by omega)
    · rw [if_pos (by omega), if_neg h]
      exact ih (c + 1) b (by omega) hb
theorem fwS_bm {w : Nat → Int} {k a : Nat} {t : Nat → Int} {P : Int} (h : ∀ c, c < 29 → pwW w (caS c) (caN c) k a 0 = P - t c) : ∀ (m c b : Nat), c + m = 29 → b < 29 → fwS w k a m c (caS b, caN b, P - t b) = (caS (bmS t m c b), caN (bmS t m c b), P - t (bmS t m c b))
  | 0, c, b, _, _ => rfl
  | m + 1, c, b, hc, hb => by
    rw [fwS, bmS, h c (by omega)]
    by_cases q : t b < t c
    · rw [if_pos (show P - t c < P - t b by omega), if_pos q]
      exact fwS_bm h m (c + 1) c (by omega) (by omega)
    · rw [if_neg (show ¬ P - t c < P - t b by omega), if_neg q]
      exact fwS_bm h m (c + 1) b (by omega) hb
theorem k_tryRules {w : Nat → Int} (hX : RuX w) (d a b : Nat) (hab : 1 ≤ a ∧ a ≤ b ∧ b ≤ 9999) (g : zG) (hA : RuAt g 0 w) : ∃ g', EvM (d + 2) 227 [.inr (10, 0), .inr (6, 0), .inl (a : Int), .inl (b : Int)] g = some (none, g') ∧ (g' 10 0 5, g' 10 0 6, g' 10 0 4) = fwS w (b - a + 1) a 28 1 (0, 0, pwW w 0 0 (b - a + 1) a 0) ∧ Fr sTt g g' := by
  let g1 := zfl45 (zU g 10 0 1 0) 0 29
  have f1 : Fr sTt g g1 := (Fr.u (k := 10) (j := 0) (i := 1) (x := 0) (by unfold sTt; omega)).tr (fun k a i hk => by
    show zfl45 _ 0 29 k a i = _
    unfold zfl45
    rw [if_neg (fun q => hk (by unfold sTt; omega))])
  have h45 : ∀ c, c < 29 → g1 45 0 c = 0 := fun c hc => by
    show zfl45 _ 0 29 45 0 c = _
    unfold zfl45
    rw [if_pos ⟨rfl, rfl, hc⟩]
  have h10 : g1 10 0 1 = 0 := rfl
  have hA1 : RuAt g1 0 w := hA.on (fun k x q => f1 k 0 x (by unfold sTt sLw sSk; omega))
  obtain ⟨g2, e2, f2, p2, pb, t2⟩ := k_trL hX d a b (by omega) none (b - a + 1) a 0 (fun _ => 0) g1 (by omega) (by omega) hA1 h10 h45 (by omega) (fun c hc => by omega)
  have f2' : Fr sTt g g2 := f1.tr (f2.up (fun q a x h => by unfold sTt; omega))
  let t := g2 45 0
  have hpw : ∀ c, c < 29 → pwW w (caS c) (caN c) (b - a + 1) a 0 = g2 10 0 1 - t c := fun c hc => by
    have := pw_tk w (caS c) (caN c) (b - a + 1) a 0 0
    rw [← (t2 c hc).1, Int.add_zero, ← p2] at this
    show _ = g2 10 0 1 - g2 45 0 c
    omega
  have hbl := bmS_lt t 28 1 0 (by omega) (by omega)
  have key := fwS_bm hpw 28 1 0 (by omega) (by omega)
  have t0 := hpw 0 (by omega)
  rw [← t0] at key
  have eL : EvM (d + 2) 227 [.inr (10, 0), .inr (6, 0), .inl (a : Int), .inl (b : Int)] g = Ev (d + 2) 227 93 [some (.inr (10, 0)), some (.inr (6, 0)), some (.inl (a : Int)), some (.inl (b : Int)), some (.inl (bmS t 28 1 0 : Int)), some (.inl 29)] [] g2 := by
    have e3 := k_bmL (d + 2) (some (.inr (6, 0))) (some (.inl (a : Int))) (some (.inl (b : Int))) g2 28 1 0 (by omega) (by omega)
    rw [← e3, en227]
    simp only [e227_0, e227_1, e227_2, e227_5, e227_6, e227_9, e227_10, e227_13, e227_14, e227_18, e227_19, e227_22, e227_23, e227_25, e227_28, e227_31, e227_32, e227_33, e227_36, e227_37, e227_38, e227_41, e227_42, e227_44, e227_47, e227_50, e227_54, e227_56, e227_57, e227_61, e227_63, e227_66, e227_67, e227_70, e227_72, e227_73, e227_74, e227_77, e227_79, e227_80, e227_83, e227_85, e227_87, e227_90, e227_93, e227_94, e227_95, e227_98, e227_99, e227_102, e227_104, e227_105, e227_106, e227_109, e227_110, e227_112, e227_114, e227_117, e227_118, e227_121, e227_122, e227_125, e227_126, e227_128, e227_130, e227_133, e227_135, e227_138, e227_140, e227_142, e227_143, e227_144, e227_145, e227_148, zU_app, zbI_some, zbV_some, Int.reduceToNat, Int.reduceLE, Int.reduceLT, Int.reduceEq, Nat.reduceEqDiff, and_self, and_true, true_and, and_false, false_and, if_true, if_false, ne_eq, not_true_eq_false, not_false_eq_true, reduceCtorEq, eq_self, true_or, or_true, or_false, false_or, zbR_some, j_fill45]
    rw [show zfl45 (zU g 10 0 1 0) 0 29 = g1 from rfl, e2]
    simp only [e227_0, e227_1, e227_2, e227_5, e227_6, e227_9, e227_10, e227_13, e227_14, e227_18, e227_19, e227_22, e227_23, e227_25, e227_28, e227_31, e227_32, e227_33, e227_36, e227_37, e227_38, e227_41, e227_42, e227_44, e227_47, e227_50, e227_53, e227_54, e227_56, e227_57, e227_61, e227_63, e227_66, e227_67, e227_70, e227_72, e227_73, e227_74, e227_77, e227_79, e227_80, e227_83, e227_85, e227_87, e227_90, e227_94, e227_95, e227_98, e227_99, e227_102, e227_104, e227_105, e227_106, e227_109, e227_110, e227_112, e227_114, e227_117, e227_118, e227_121, e227_122, e227_125, e227_126, e227_128, e227_130, e227_133, e227_135, e227_138, e227_140, e227_142, e227_143, e227_144, e227_145, e227_148]
    rfl
  generalize hB : bmS t 28 1 0 = B at hbl key eL
  obtain ⟨q1, q2, q3⟩ := t2 B hbl
  have zL : zwr (g2 10 0 1 - g2 45 0 B) = g2 10 0 1 - g2 45 0 B := zwr_id (by omega) (by omega)
  refine ⟨zU (zU (zU g2 10 0 4 (g2 10 0 1 - t B)) 10 0 5 (caS B)) 10 0 6 (caN B), ?_, ?_, ?_⟩
  · rw [eL]
    simp (disch := omega) only [e227_0, e227_1, e227_2, e227_5, e227_6, e227_9, e227_10, e227_13, e227_14, e227_18, e227_19, e227_22, e227_23, e227_25, e227_28, e227_31, e227_32, e227_33, e227_36, e227_37, e227_38, e227_41, e227_42, e227_44, e227_47, e227_50, e227_53, e227_54, e227_56, e227_57, e227_61, e227_63, e227_66, e227_67, e227_70, e227_72, e227_73, e227_74, e227_77, e227_79, e227_80, e227_83, e227_85, e227_87, e227_90, e227_93, e227_94, e227_95, e227_98, e227_99, e227_102, e227_104, e227_105, e227_106, e227_109, e227_110, e227_112, e227_114, e227_117, e227_118, e227_121, e227_122, e227_125, e227_126, e227_128, e227_130, e227_133, e227_135, e227_138, e227_140, e227_142, e227_143, e227_144, e227_145, e227_148, zU_app, zbI_some, zbV_some, Int.reduceToNat, Int.reduceLE, Int.reduceLT, Int.reduceEq, Nat.reduceEqDiff, and_self, and_true, true_and, and_false, false_and, if_true, if_false, ne_eq, not_true_eq_false, not_false_eq_true, reduceCtorEq, eq_self, true_or, or_true, or_false, false_or, zbR_some, zwr_id, if_pos, if_neg, Int.toNat_natCast, zL]
    by_cases h : B < 10
    · rw [show caS B = 0 from if_pos h, show caN B = (B : Int) from if_pos h, if_neg (show ¬ (10 : Int) ≤ (B : Int) by omega)]
    · rw [show caS B = 1 from if_neg h, show caN B = (B : Int) - 8 from if_neg h, if_pos (show (10 : Int) ≤ (B : Int) by omega), show (B : Int) - 10 + 2 = (B : Int) - 8 by omega]
  · rw [show ((0 : Int), (0 : Int), pwW w 0 0 (b - a + 1) a 0) = (caS 0, caN 0, pwW w (caS 0) (caN 0) (b - a + 1) a 0) from rfl, key]
    rfl
  · exact ((f2'.tr (Fr.u (by unfold sTt; omega))).tr (Fr.u (by unfold sTt; omega))).tr (Fr.u (by unfold sTt; omega))
theorem k_fewest {w : Nat → Int} {ls : List (List (Int × Int) × List (Int × Int))} (hK : WOk w ls) (d : Nat) (a b x : Int) (g : zG) (h : RdAt g 0 w ls) : ∃ g', EvM (d + 3) 226 [.inr (11, 0), .inl a, .inl b, .inl x] g = some (some (.inl (aFew w a b x)), g') ∧ Fr sTt g g' := by
  have k1 := k_isSpan (d + 2) a b g
  unfold aFew
  by_cases hs : 1 ≤ a ∧ a ≤ b ∧ b ≤ 9999
  · by_cases hx : 0 ≤ x ∧ x ≤ 2
    · obtain ⟨a, rfl⟩ : ∃ q : Nat, a = (q : Int) := ⟨a.toNat, by omega⟩
      obtain ⟨b, rfl⟩ : ∃ q : Nat, b = (q : Int) := ⟨b.toNat, by omega⟩
      obtain ⟨g1, e1, h1, f1⟩ := k_tryRules hK.2.1 d a b (by omega) g h.2.1
      refine ⟨g1, ?_, f1⟩
      rw [if_pos ⟨hs, hx⟩, show ((b : Int) - (a : Int) + 1).toNat = b - a + 1 by omega, Int.toNat_natCast, ← h1, en226]
      simp only [e226_0, e226_1, e226_2, e226_5, e226_8, e226_9, e226_12, e226_13, e226_14, e226_17, e226_18, e226_19, e226_20, e226_23, e226_24, e226_27, e226_30, e226_31, e226_32, e226_35, e226_36, e226_37, e226_40, e226_41, e226_44, e226_47, e226_48, e226_49, e226_52, e226_53, e226_56, e226_59, e226_62, e226_63, e226_66, e226_69, zU_app, zbI_some, zbV_some, Int.reduceToNat, Int.reduceLE, Int.reduceLT, Int.reduceEq, Nat.reduceEqDiff, and_self, and_true, true_and, and_false, false_and, if_true, if_false, ne_eq, not_true_eq_false, not_false_eq_true, reduceCtorEq, eq_self, true_or, or_true, or_false, false_or, zbR_some, k1, e1]
      rw [zb_t hs, if_neg (by decide), if_neg (by omega), if_pos (by omega)]
      unfold plB
      by_cases x0 : x = 0
      · rw [if_pos (by omega), if_neg (by omega), if_pos x0]
      · by_cases x1 : x = 1
        · rw [if_pos (by omega), if_pos x0, if_neg x0, if_pos x1]
        · rw [if_neg (by omega), if_neg x0, if_neg x1]
    · refine ⟨g, ?_, Fr.rf⟩
      rw [if_neg (fun q => hx q.2), en226]
      simp only [e226_0, e226_1, e226_2, e226_5, e226_8, e226_9, e226_12, e226_13, e226_14, e226_17, e226_18, e226_19, e226_20, e226_23, e226_24, e226_27, e226_30, e226_31, e226_32, e226_35, e226_36, e226_37, e226_40, e226_41, e226_44, e226_47, e226_48, e226_49, e226_52, e226_53, e226_56, e226_59, e226_62, e226_63, e226_66, e226_69, zU_app, zbI_some, zbV_some, Int.reduceToNat, Int.reduceLE, Int.reduceLT, Int.reduceEq, Nat.reduceEqDiff, and_self, and_true, true_and, and_false, false_and, if_true, if_false, ne_eq, not_true_eq_false, not_false_eq_true, reduceCtorEq, eq_self, true_or, or_true, or_false, false_or, zbR_some, k1]
      rw [zb_t hs, if_neg (by decide)]
      by_cases x0 : x < 0
      · rw [if_pos x0]
      · rw [if_neg x0, if_neg (by omega)]
  · refine ⟨g, ?_, Fr.rf⟩
    rw [if_neg (fun q => hs q.1), en226]
    simp only [e226_0, e226_1, e226_2, e226_5, e226_8, e226_9, e226_12, e226_13, e226_14, e226_17, e226_18, e226_19, e226_20, e226_23, e226_24, e226_27, e226_30, e226_31, e226_32, e226_35, e226_36, e226_37, e226_40, e226_41, e226_44, e226_47, e226_48, e226_49, e226_52, e226_53, e226_56, e226_59, e226_62, e226_63, e226_66, e226_69, zU_app, zbI_some, zbV_some, Int.reduceToNat, Int.reduceLE, Int.reduceLT, Int.reduceEq, Nat.reduceEqDiff, and_self, and_true, true_and, and_false, false_and, if_true, if_false, ne_eq, not_true_eq_false, not_false_eq_true, reduceCtorEq, eq_self, true_or, or_true, or_false, false_or, zbR_some, k1]
    rw [zb_f hs, if_pos rfl]
