/-! the model: sits, seating -/
def MaOk (t : Nat) (l : List Nat) : Prop := t < 256 ∧ ∀ p, p < 8 → t.testBit p = decide (p ∈ l)
theorem MaOk.ad {t : Nat} {l : List Nat} (h : MaOk t l) {p : Nat} (hp : p < 8) : MaOk (t ||| 2 ^ p) (l ++ [p]) := by
  have hp2 : 2 ^ p < 2 ^ 8 := Nat.pow_lt_pow_right (by decide) hp
  refine ⟨Nat.or_lt_two_pow (n := 8) h.1 hp2, fun q hq => ?_⟩
  rw [Nat.testBit_or, h.2 q hq, Nat.testBit_two_pow]
  by_cases e : q = p
  · subst e; simp
  · simp [e, Ne.symm e]
theorem SeIn.ad {w r : Nat → Int} {n : Nat} {l : List Nat} (h : SeIn w n l r) {p : Nat} (hp : p < n) (hn : p ∉ l) : SeIn w n (l ++ [p]) (uW r (28 + p) (l.length : Int)) := by
  refine ⟨fun i hi => ?_, fun k hk => ?_⟩
  · rw [uW_ne (by omega)]; exact h.1 i hi
  · rw [List.length_append, List.length_singleton] at hk
    by_cases e : k = l.length
    · subst e
      rw [List.getD_eq_getElem?_getD, List.getElem?_append_right (Nat.le_refl _)]
      simp [uW_eq]
    · have hk' : k < l.length := by omega
      have hg : (l ++ [p]).getD k 0 = l.getD k 0 := by
        rw [List.getD_eq_getElem?_getD, List.getElem?_append_left hk', ← List.getD_eq_getElem?_getD]
      have hm : l.getD k 0 ∈ l := by
        rw [List.getD_eq_getElem?_getD, List.getElem?_eq_getElem hk', Option.getD_some]
        exact List.getElem_mem hk'
      have hne : l.getD k 0 ≠ p := fun z => hn (z ▸ hm)
      rw [hg, uW_ne (by omega)]
      exact h.2 k hk'
theorem SeIn.dr {w r : Nat → Int} {n : Nat} {l : List Nat} {p : Nat} (h : SeIn w n (l ++ [p]) r) : SeIn w n l r := by
  refine ⟨h.1, fun k hk => ?_⟩
  have hg : (l ++ [p]).getD k 0 = l.getD k 0 := by
    rw [List.getD_eq_getElem?_getD, List.getElem?_append_left hk, ← List.getD_eq_getElem?_getD]
  have := h.2 k (by rw [List.length_append]; omega)
  rw [hg] at this
  exact this
def gtF (w : Nat → Int) (n v : Nat) (l : List Nat) : Int := gtW (seR w n l) (v - 1) 1 0 1 0 1000000
theorem m_sits {w : Nat → Int} {n : Nat} (hR : ∀ l, RuOk (seR w n l)) (hL : ∀ l, LwOk (seR w n l)) (d v : Nat) (hw : w 17 = (n : Int)) (hn : 0 < n ∧ n ≤ 8) (hv : 0 < v ∧ v < 10000) : ∀ (m : Nat) (l : List Nat) (t : Nat) (q : Int × List Nat) (g : zG), l.length + m = n → l.Nodup → (∀ x, x ∈ l → x < n) → MaOk t l → SeIn w n l (g 46 0) → BeAt g q →
    ∃ g', EvM (d + 4 + m) 241 [.inr (12, 0), .inl (l.length : Int), .inl (t : Int), .inl (v : Int)] g = some (none, g') ∧ SeIn w n l (g' 46 0) ∧ BeAt g' (stS n (gtF w n v) m l q) ∧ Fr sSi g g' := by
  intro m
  induction m with
  | zero =>
    intro l t q g hlen h hl hm hS hB
    have hlen : l.length = n := by omega
    rw [hlen]
    exact m_sits0 hR hL d l t v q g hw hn hv h hl hlen hS hB
  | succ m ih =>
    intro l t q g hlen h hl hm hS hB
    have loop : ∀ (k i : Nat) (q : Int × List Nat) (g : zG) (u : Option zV), i + k = n → SeIn w n l (g 46 0) → BeAt g q →
        ∃ g', Ev (d + 4 + m + 1) 241 79 [some (.inr (12, 0)), some (.inl (l.length : Int)), some (.inl (t : Int)), some (.inl (v : Int)), some (.inl (n : Int)), some (.inl (i : Int)), u] [] g = some (none, g') ∧ SeIn w n l (g' 46 0) ∧ BeAt g' ((List.range' i k).foldl (fun q p => if p ∈ l then q else stS n (gtF w n v) m (l ++ [p]) q) q) ∧ Fr sSi g g' := by
      intro k
      induction k with
      | zero =>
        intro i q g u hi hS hB
        refine ⟨g, ?_, hS, hB, Fr.rf⟩
        rw [e241_79]
        simp only [e241_0, e241_1, e241_4, e241_6, e241_7, e241_9, e241_10, e241_12, e241_15, e241_16, e241_19, e241_20, e241_21, e241_24, e241_26, e241_28, e241_29, e241_32, e241_35, e241_36, e241_37, e241_39, e241_42, e241_43, e241_47, e241_49, e241_52, e241_53, e241_56, e241_57, e241_60, e241_62, e241_64, e241_65, e241_66, e241_68, e241_69, e241_72, e241_75, e241_76, e241_77, e241_81, e241_83, e241_86, e241_87, e241_89, e241_90, e241_91, e241_92, e241_93, e241_96, e241_99, e241_100, e241_103, e241_105, e241_107, e241_108, e241_109, e241_110, e241_111, e241_112, e241_113, e241_114, e241_115, e241_116, e241_118, e241_119, e241_120, e241_121, e241_124, e241_127, e241_130]
        rw [if_pos (by omega)]
      | succ k ihk =>
        intro i q g u hi hS hB
        rw [List.range'_succ, List.foldl_cons]
        have hbit : zand (zshr (t : Int) (i : Int)) 1 = if t.testBit i then 1 else 0 := zbit (by have := hm.1; omega) (by omega)
        by_cases hmem : i ∈ l
        · have hb : t.testBit i = true := by rw [hm.2 i (by omega)]; exact decide_eq_true hmem
          rw [hb, if_pos rfl] at hbit
          obtain ⟨g', a1, a2, a3, a4⟩ := ihk (i + 1) q g u (by omega) hS hB
          rw [if_pos hmem]
          refine ⟨g', ?_, a2, a3, a4⟩
          rw [← a1, e241_79]
          simp only [e241_0, e241_1, e241_4, e241_6, e241_7, e241_9, e241_10, e241_12, e241_15, e241_16, e241_19, e241_20, e241_21, e241_24, e241_26, e241_28, e241_29, e241_32, e241_35, e241_36, e241_37, e241_39, e241_42, e241_43, e241_47, e241_49, e241_52, e241_53, e241_56, e241_57, e241_60, e241_62, e241_64, e241_65, e241_66, e241_68, e241_69, e241_72, e241_75, e241_76, e241_77, e241_81, e241_83, e241_86, e241_87, e241_89, e241_90, e241_91, e241_92, e241_93, e241_96, e241_99, e241_100, e241_103, e241_105, e241_107, e241_108, e241_109, e241_110, e241_111, e241_112, e241_113, e241_114, e241_115, e241_116, e241_118, e241_119, e241_120, e241_121, e241_124, e241_127, e241_130, zU_app, zbI_some, zbV_some, Int.reduceToNat, Int.reduceLE, Int.reduceLT, Int.reduceEq, Nat.reduceEqDiff, and_self, and_true, true_and, and_false, false_and, if_true, if_false, ne_eq, not_true_eq_false, not_false_eq_true, reduceCtorEq, hbit]
          rw [if_neg (by omega), zwr_id (by omega) (by omega)]
          rfl
        · have hb : t.testBit i = false := by rw [hm.2 i (by omega)]; exact decide_eq_false hmem
          rw [hb, if_neg (by decide)] at hbit
          have row : zU g 46 0 (28 + i) (l.length : Int) 46 0 = uW (g 46 0) (28 + i) (l.length : Int) := zU_row _ _ _ _ _
          have hB1 : BeAt (zU g 46 0 (28 + i) (l.length : Int)) q := ⟨by rw [zU_ne (by omega)]; exact hB.1, fun k hk => by rw [zU_ne (by omega)]; exact hB.2 k hk⟩
          have hnd : (l ++ [i]).Nodup := by
            rw [List.nodup_append]
            refine ⟨h, by simp, fun a ha b hb => ?_⟩
            rw [List.mem_singleton] at hb
            intro e
            exact hmem (by rw [← hb, ← e]; exact ha)
          obtain ⟨g1, b1, b2, b3, b4⟩ := ih (l ++ [i]) (t ||| 2 ^ i) q _ (by rw [List.length_append, List.length_singleton]; omega) hnd (fun x hx => by
            rw [List.mem_append, List.mem_singleton] at hx
            rcases hx with z | z
            · exact hl x z
            · omega) (hm.ad (by omega)) (by rw [row]; exact hS.ad (by omega) hmem) hB1
          obtain ⟨g', a1, a2, a3, a4⟩ := ihk (i + 1) _ g1 u (by omega) b2.dr b3
          rw [if_neg hmem]
          have hor : zor (t : Int) (zshl 1 (i : Int)) = ((t ||| 2 ^ i : Nat) : Int) := by
            have : 2 ^ i < 2 ^ 8 := Nat.pow_lt_pow_right (by decide) (by omega)
            have := hm.1
            rw [zshl1 i (by omega), zor_nat (by omega) (by omega)]
          rw [List.length_append, List.length_singleton] at b1
          refine ⟨g', ?_, a2, a3, ?_⟩
          · rw [← a1, e241_79]
            simp only [e241_0, e241_1, e241_4, e241_6, e241_7, e241_9, e241_10, e241_12, e241_15, e241_16, e241_19, e241_20, e241_21, e241_24, e241_26, e241_28, e241_29, e241_32, e241_35, e241_36, e241_37, e241_39, e241_42, e241_43, e241_47, e241_49, e241_52, e241_53, e241_56, e241_57, e241_60, e241_62, e241_64, e241_65, e241_66, e241_68, e241_69, e241_72, e241_75, e241_76, e241_77, e241_81, e241_83, e241_86, e241_87, e241_89, e241_90, e241_91, e241_92, e241_93, e241_96, e241_99, e241_100, e241_103, e241_105, e241_107, e241_108, e241_109, e241_110, e241_111, e241_112, e241_113, e241_114, e241_115, e241_116, e241_118, e241_119, e241_120, e241_121, e241_124, e241_127, e241_130, zU_app, zbI_some, zbV_some, Int.reduceToNat, Int.reduceLE, Int.reduceLT, Int.reduceEq, Nat.reduceEqDiff, and_self, and_true, true_and, and_false, false_and, if_true, if_false, ne_eq, not_true_eq_false, not_false_eq_true, reduceCtorEq, hbit, hor]
            rw [if_neg (by omega), zwr_id (x := 28 + (i : Int)) (by omega) (by omega), if_pos (by omega), show (28 + (i : Int)).toNat = 28 + i by omega, zwr_id (x := (l.length : Int) + 1) (by omega) (by omega), show (l.length : Int) + 1 = ((l.length + 1 : Nat) : Int) by omega]
            have b1' : EvM (d + 4 + m) 241 [.inr (12, 0), .inl ((l.length + 1 : Nat) : Int), .inl ((t ||| 2 ^ i : Nat) : Int), .inl (v : Int)] (zU g 46 0 (28 + i) (l.length : Int)) = some (none, g1) := b1
            rw [b1', zbV_some, zwr_id (by omega) (by omega)]
            rfl
          · refine Fr.tr ?_ (b4.tr a4)
            exact Fr.u (Or.inr (Or.inl ⟨rfl, rfl, by omega, by omega⟩))
    have e17 : g 46 0 17 = (n : Int) := by rw [hS.1 17 (by omega)]; exact hw
    obtain ⟨g', a1, a2, a3, a4⟩ := loop n 0 q g none (by omega) hS hB
    refine ⟨g', ?_, a2, a3, a4⟩
    show EvM (d + 4 + m + 1) 241 _ g = _
    rw [← a1, en241]
    simp only [e241_0, e241_1, e241_4, e241_6, e241_7, e241_9, e241_10, e241_12, e241_15, e241_16, e241_19, e241_20, e241_21, e241_24, e241_26, e241_28, e241_29, e241_32, e241_35, e241_36, e241_37, e241_39, e241_42, e241_43, e241_47, e241_49, e241_52, e241_53, e241_56, e241_57, e241_60, e241_62, e241_64, e241_65, e241_66, e241_68, e241_69, e241_72, e241_75, e241_76, e241_77, e241_81, e241_83, e241_86, e241_87, e241_89, e241_90, e241_91, e241_92, e241_93, e241_96, e241_99, e241_100, e241_103, e241_105, e241_107, e241_108, e241_109, e241_110, e241_111, e241_112, e241_113, e241_114, e241_115, e241_116, e241_118, e241_119, e241_120, e241_121, e241_124, e241_127, e241_130, zU_app, zbI_some, zbV_some, Int.reduceToNat, Int.reduceLE, Int.reduceLT, Int.reduceEq, Nat.reduceEqDiff, and_self, and_true, true_and, and_false, false_and, if_true, if_false, ne_eq, not_true_eq_false, not_false_eq_true, reduceCtorEq, e17]
    rw [if_pos (by omega)]
    rfl
