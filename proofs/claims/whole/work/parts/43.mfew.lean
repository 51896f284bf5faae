/-! the model: fewest -/
def pwW (w : Nat → Int) (so nu : Int) : Nat → Nat → Int → Int
  | 0, _, n => n
  | k + 1, v, n => pwW w so nu k (v + 1) (n + if maW w v = 0 ∧ hit so nu v = false then 1 else 0)
theorem m_pwL {w : Nat → Int} (hR : RuOk w) (d : Nat) (so nu a : Int) (b : Nat) (hb : b < 10000) (hs : so = 0 ∨ so = 1 ∧ 0 < nu) (g : zG) (hw : g 46 0 = w) : ∀ (k v : Nat) (n : Int), v + k = b + 1 → 0 < v → (0 ≤ n ∧ n ≤ v) → Ev (d + 2) 230 6 [some (.inr (12, 0)), some (.inl so), some (.inl nu), some (.inl a), some (.inl (b : Int)), some (.inl n), some (.inl (v : Int))] [] g = some (some (.inl (pwW w so nu k v n)), g) := by
  intro k
  induction k with
  | zero =>
    intro v n h h0 hn
    rw [e230_6]
    simp only [e230_0, e230_1, e230_3, e230_4, e230_8, e230_10, e230_13, e230_15, e230_16, e230_18, e230_21, e230_24, e230_25, e230_28, e230_30, e230_31, e230_34, e230_37, e230_40, e230_42, e230_43, e230_44, e230_47, e230_48, e230_51, e230_52, e230_53, e230_55, e230_58, e230_61, e230_63]
    rw [if_pos (by omega)]
    rfl
  | succ k ih =>
    intro v n h h0 hn
    have n1 : (v : Int) + 1 = ((v + 1 : Nat) : Int) := by omega
    rw [e230_6]
    simp only [e230_0, e230_1, e230_3, e230_4, e230_8, e230_10, e230_13, e230_15, e230_16, e230_18, e230_21, e230_24, e230_25, e230_28, e230_30, e230_31, e230_34, e230_37, e230_40, e230_42, e230_43, e230_44, e230_47, e230_48, e230_51, e230_52, e230_53, e230_55, e230_58, e230_61, e230_63, m_rules' hR _ v g hw h0 (show v < 10000 by omega), m_hasFigure _ v nu g (show v < 10000 by omega), zU_app, zbI_some, zbV_some, Int.reduceToNat, Int.reduceLE, Int.reduceLT, Int.reduceEq, Nat.reduceEqDiff, and_self, and_true, true_and, and_false, false_and, if_true, if_false, ne_eq, not_true_eq_false, not_false_eq_true, reduceCtorEq]
    rw [if_neg (by omega), pwW, zwr_id (x := (v : Int) + 1) (by omega) (by omega), zwr_id (x := n + 0) (by omega) (by omega), zwr_id (x := n + 1) (by omega) (by omega), n1]
    by_cases hm : maW w v = 0
    · rw [if_neg (by omega)]
      rcases hs with q | ⟨q, q'⟩
      · rw [if_neg (fun z => z q)]
        have hh : hit so nu v = hasF v nu := by unfold hit; rw [if_pos q]
        rw [hh]
        cases hf : hasF v nu with
        | true =>
          rw [zb_t rfl, if_neg (by decide), if_neg (fun z => by cases z.2)]
          exact ih (v + 1) _ (by omega) (by omega) (by omega)
        | false =>
          rw [zb_f (by decide), if_pos rfl, if_pos ⟨hm, rfl⟩]
          exact ih (v + 1) _ (by omega) (by omega) (by omega)
      · rw [if_pos (by omega)]
        have e1 : Int.tmod (v : Int) nu = (v : Int) % nu := Int.tmod_eq_emod_of_nonneg (by omega)
        have hh : hit so nu v = decide ((v : Int) % nu = 0) := by unfold hit; rw [if_neg (by omega)]
        rw [hh, e1, if_neg (show ¬ nu = 0 by omega)]
        by_cases hz : (v : Int) % nu = 0
        · rw [if_pos hz, if_neg (fun z => by rw [decide_eq_true hz] at z; cases z.2)]
          exact ih (v + 1) _ (by omega) (by omega) (by omega)
        · rw [if_neg hz, if_pos ⟨hm, decide_eq_false hz⟩]
          exact ih (v + 1) _ (by omega) (by omega) (by omega)
    · rw [if_pos (by omega), if_neg (fun z => hm z.1)]
      exact ih (v + 1) _ (by omega) (by omega) (by omega)
theorem m_plainWith {w : Nat → Int} (hR : RuOk w) (d : Nat) (so nu a b : Int) (hab : 1 ≤ a ∧ a ≤ b ∧ b ≤ 9999) (hs : so = 0 ∨ so = 1 ∧ 0 < nu) (g : zG) (hw : g 46 0 = w) : EvM (d + 2) 230 [.inr (12, 0), .inl so, .inl nu, .inl a, .inl b] g = some (some (.inl (pwW w so nu (b - a + 1).toNat a.toNat 0)), g) := by
  obtain ⟨b', hb⟩ : ∃ q : Nat, b = (q : Int) := ⟨b.toNat, by omega⟩
  obtain ⟨a', ha⟩ : ∃ q : Nat, a = (q : Int) := ⟨a.toNat, by omega⟩
  subst hb ha
  rw [en230]
  simp only [e230_0, e230_1, e230_3, e230_4, e230_8, e230_10, e230_13, e230_15, e230_16, e230_18, e230_21, e230_24, e230_25, e230_28, e230_30, e230_31, e230_34, e230_37, e230_40, e230_42, e230_43, e230_44, e230_47, e230_48, e230_51, e230_52, e230_53, e230_55, e230_58, e230_61, e230_63]
  exact m_pwL hR d so nu _ b' (by omega) hs g hw _ a' 0 (by omega) (by omega) (by omega)
def plB (q : Int × Int × Int) (x : Int) : Int := if x = 0 then q.1 else if x = 1 then q.2.1 else q.2.2
def caS (c : Nat) : Int := if c < 10 then 0 else 1
def caN (c : Nat) : Int := if c < 10 then (c : Int) else (c : Int) - 8
def fwS (w : Nat → Int) (k a : Nat) : Nat → Nat → Int × Int × Int → Int × Int × Int
  | 0, _, q => q
  | m + 1, c, q => fwS w k a m (c + 1) (if pwW w (caS c) (caN c) k a 0 < q.2.2 then (caS c, caN c, pwW w (caS c) (caN c) k a 0) else q)
theorem m_fewL {w : Nat → Int} (hR : RuOk w) (d : Nat) (a b x : Int) (hab : 1 ≤ a ∧ a ≤ b ∧ b ≤ 9999) (g : zG) (hw : g 46 0 = w) : ∀ (m c : Nat) (s n t : Int) (u v y : Option zV), c + m = 29 → 0 < c → Ev (d + 3) 229 38 [some (.inr (12, 0)), some (.inl a), some (.inl b), some (.inl x), some (.inl s), some (.inl n), some (.inl t), some (.inl (c : Int)), u, v, y] [] g = some (some (.inl (plB (fwS w (b - a + 1).toNat a.toNat m c (s, n, t)) x)), g) := by
  intro m
  induction m with
  | zero =>
    intro c s n t u v y h h0
    rw [e229_38]
    simp only [e229_0, e229_1, e229_2, e229_5, e229_8, e229_9, e229_10, e229_11, e229_14, e229_17, e229_18, e229_19, e229_20, e229_22, e229_23, e229_25, e229_26, e229_27, e229_28, e229_29, e229_30, e229_33, e229_35, e229_36, e229_40, e229_42, e229_45, e229_47, e229_49, e229_52, e229_53, e229_56, e229_57, e229_59, e229_61, e229_63, e229_66, e229_68, e229_71, e229_73, e229_75, e229_76, e229_78, e229_79, e229_81, e229_83, e229_84, e229_85, e229_88, e229_90, e229_92, e229_94, e229_97, e229_100, e229_102, e229_104, e229_106, e229_108, e229_110, e229_112, e229_115, e229_118, e229_119, e229_122, e229_124, e229_127, e229_128, e229_129, e229_132, e229_134, e229_137, e229_139]
    rw [if_pos (by omega)]
    unfold plB fwS
    by_cases q0 : x = 0
    · rw [if_neg (fun z => z q0), if_pos q0]
    · rw [if_pos q0, if_neg q0]
      by_cases q1 : x = 1
      · rw [if_neg (fun z => z q1), if_pos q1]
      · rw [if_pos q1, if_neg q1]
  | succ m ih =>
    intro c s n t u v y h h0
    have n1 : (c : Int) + 1 = ((c + 1 : Nat) : Int) := by omega
    rw [e229_38]
    simp only [e229_0, e229_1, e229_2, e229_5, e229_8, e229_9, e229_10, e229_11, e229_14, e229_17, e229_18, e229_19, e229_20, e229_22, e229_23, e229_25, e229_26, e229_27, e229_28, e229_29, e229_30, e229_33, e229_35, e229_36, e229_40, e229_42, e229_45, e229_47, e229_49, e229_52, e229_53, e229_56, e229_57, e229_59, e229_61, e229_63, e229_66, e229_68, e229_71, e229_73, e229_75, e229_76, e229_78, e229_79, e229_81, e229_83, e229_84, e229_85, e229_88, e229_90, e229_92, e229_94, e229_97, e229_100, e229_102, e229_104, e229_106, e229_108, e229_110, e229_112, e229_115, e229_118, e229_119, e229_122, e229_124, e229_127, e229_128, e229_129, e229_132, e229_134, e229_137, e229_139]
    rw [if_neg (by omega), fwS, zwr_id (x := (c : Int) + 1) (by omega) (by omega), n1]
    by_cases hc : c < 10
    · have e1 : caS c = 0 := if_pos hc
      have e2 : caN c = (c : Int) := if_pos hc
      rw [e1, e2]
      simp only [if_neg (show ¬ (10 : Int) ≤ (c : Int) by omega), m_plainWith hR _ 0 (c : Int) a b hab (Or.inl rfl) g hw, zbI_some]
      by_cases hq : pwW w 0 (c : Int) (b - a + 1).toNat a.toNat 0 < t
      · rw [if_pos hq, if_pos hq]
        exact ih (c + 1) _ _ _ _ _ _ (by omega) (by omega)
      · rw [if_neg hq, if_neg hq]
        exact ih (c + 1) _ _ _ _ _ _ (by omega) (by omega)
    · have e1 : caS c = 1 := if_neg hc
      have e2 : caN c = (c : Int) - 8 := if_neg hc
      rw [e1, e2]
      simp only [if_pos (show (10 : Int) ≤ (c : Int) by omega), zwr_id (x := (c : Int) - 8) (by omega) (by omega), m_plainWith hR _ 1 ((c : Int) - 8) a b hab (Or.inr ⟨rfl, by omega⟩) g hw, zbI_some]
      by_cases hq : pwW w 1 ((c : Int) - 8) (b - a + 1).toNat a.toNat 0 < t
      · rw [if_pos hq, if_pos hq]
        exact ih (c + 1) _ _ _ _ _ _ (by omega) (by omega)
      · rw [if_neg hq, if_neg hq]
        exact ih (c + 1) _ _ _ _ _ _ (by omega) (by omega)
def aFew (w : Nat → Int) (a b x : Int) : Int := if (1 ≤ a ∧ a ≤ b ∧ b ≤ 9999) ∧ (0 ≤ x ∧ x ≤ 2) then plB (fwS w (b - a + 1).toNat a.toNat 28 1 (0, 0, pwW w 0 0 (b - a + 1).toNat a.toNat 0)) x else -1
theorem m_fewest {w : Nat → Int} (hR : RuOk w) (d : Nat) (a b x : Int) (g : zG) (hw : g 46 0 = w) : EvM (d + 3) 229 [.inr (12, 0), .inl a, .inl b, .inl x] g = some (some (.inl (aFew w a b x)), g) := by
  rw [en229]
  unfold aFew
  simp only [e229_0, e229_1, e229_2, e229_5, e229_8, e229_9, e229_10, e229_11, e229_14, e229_17, e229_18, e229_19, e229_20, e229_22, e229_23, e229_25, e229_26, e229_27, e229_28, e229_29, e229_30, e229_33, e229_35, e229_36, e229_40, e229_42, e229_45, e229_47, e229_49, e229_52, e229_53, e229_56, e229_57, e229_59, e229_61, e229_63, e229_66, e229_68, e229_71, e229_73, e229_75, e229_76, e229_78, e229_79, e229_81, e229_83, e229_84, e229_85, e229_88, e229_90, e229_92, e229_94, e229_97, e229_100, e229_102, e229_104, e229_106, e229_108, e229_110, e229_112, e229_115, e229_118, e229_119, e229_122, e229_124, e229_127, e229_128, e229_129, e229_132, e229_134, e229_137, e229_139, m_isSpan, m_isIn, zU_app, zbI_some, zbV_some, Int.reduceToNat, Int.reduceLE, Int.reduceLT, Int.reduceEq, Nat.reduceEqDiff, and_self, and_true, true_and, and_false, false_and, if_true, if_false, ne_eq, not_true_eq_false, not_false_eq_true, reduceCtorEq]
  by_cases h1 : 1 ≤ a ∧ a ≤ b ∧ b ≤ 9999
  · by_cases h2 : 0 ≤ x ∧ x ≤ 2
    · rw [zb_t h1, zb_t h2, if_neg (by decide), if_pos (by decide), if_pos ⟨h1, h2⟩]
      simp only [m_plainWith hR _ 0 0 a b h1 (Or.inl rfl) g hw, zbI_some]
      exact m_fewL hR d a b x h1 g hw 28 1 _ _ _ _ _ _ (by omega) (by omega)
    · rw [zb_t h1, zb_f h2, if_neg (by decide), if_neg (by decide), if_neg (fun q => h2 q.2)]
  · rw [zb_f h1, if_pos rfl, if_neg (fun q => h1 q.1)]
