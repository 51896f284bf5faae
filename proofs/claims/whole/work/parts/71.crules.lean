/-! THE CLASS: its rules -/
def fgN : Nat → Nat → Nat → Nat
  | 0, _, a => a
  | k + 1, v, a => if v = 0 then a else fgN k (v / 10) (a ||| 2 ^ (v % 10))
theorem fgN_bit : ∀ (k v a f : Nat), (fgN k v a).testBit f = (a.testBit f || (dg k v).any (fun x => decide (x = f)))
  | 0, v, a, f => by simp [fgN, dg]
  | k + 1, v, a, f => by
    rw [fgN, dg]
    by_cases h : v = 0
    · rw [if_pos h, if_pos h]; simp
    · rw [if_neg h, if_neg h, fgN_bit k, Nat.testBit_or, Nat.testBit_two_pow, List.any_cons, Bool.or_assoc]
theorem p2_10 (v : Nat) : 2 ^ (v % 10) ≤ 512 := by
  have : 2 ^ (v % 10) ≤ 2 ^ 9 := Nat.pow_le_pow_right (by decide) (by omega)
  omega
theorem fgN_lt : ∀ (k v a : Nat), a < 1024 → fgN k v a < 1024
  | 0, v, a, h => h
  | k + 1, v, a, h => by
    rw [fgN]
    split
    · exact h
    · have := p2_10 v
      exact fgN_lt k _ _ (Nat.or_lt_two_pow (n := 10) h (by omega))
theorem fgN_has (v f : Nat) : (fgN 4 v 0).testBit f = hasF v (f : Int) := by
  rw [fgN_bit, Nat.zero_testBit, Bool.false_or]
  unfold hasF
  congr 1
  funext x
  by_cases h : x = f
  · rw [decide_eq_true h, decide_eq_true (by omega)]
  · rw [decide_eq_false h, decide_eq_false (by omega)]
theorem k_figL (d : Nat) (x : Int) (g : zG) : ∀ (m k v a : Nat), k + m = 4 → v < 10 ^ m → a < 1024 → Ev d 136 6 [some (.inl x), some (.inl (a : Int)), some (.inl (v : Int)), some (.inl (k : Int))] [] g = some (some (.inl (fgN m v a : Int)), g) := by
  intro m
  induction m with
  | zero =>
    intro k v a hk hv ha
    rw [e136_6]
    simp (disch := omega) only [e136_0, e136_1, e136_2, e136_3, e136_4, e136_5, e136_7, e136_8, e136_11, e136_12, e136_15, e136_16, e136_17, e136_18, e136_20, e136_21, e136_22, e136_23, e136_24, e136_25, e136_27, e136_28, e136_29, e136_32, e136_35, e136_36, zU_app, zbI_some, zbV_some, Int.reduceToNat, Int.reduceLE, Int.reduceLT, Int.reduceEq, Nat.reduceEqDiff, and_self, and_true, true_and, and_false, false_and, if_true, if_false, ne_eq, not_true_eq_false, not_false_eq_true, reduceCtorEq, eq_self, true_or, or_true, or_false, false_or, zbR_some, zwr_id, if_pos, if_neg]
    rfl
  | succ m ih =>
    intro k v a hk hv ha
    have hv4 : v < 10000 := by
      have := Nat.pow_le_pow_right (n := 10) (by decide) (show m + 1 ≤ 4 by omega)
      omega
    rw [e136_6]
    simp (disch := omega) only [e136_0, e136_1, e136_2, e136_3, e136_4, e136_5, e136_7, e136_8, e136_11, e136_12, e136_15, e136_16, e136_17, e136_18, e136_20, e136_21, e136_22, e136_23, e136_24, e136_25, e136_27, e136_28, e136_29, e136_32, e136_35, e136_36, zU_app, zbI_some, zbV_some, Int.reduceToNat, Int.reduceLE, Int.reduceLT, Int.reduceEq, Nat.reduceEqDiff, and_self, and_true, true_and, and_false, false_and, if_true, if_false, ne_eq, not_true_eq_false, not_false_eq_true, reduceCtorEq, eq_self, true_or, or_true, or_false, false_or, zbR_some, zwr_id, if_pos, if_neg]
    rw [fgN]
    by_cases h0 : v = 0
    · rw [if_pos (by omega), if_pos h0]
    · have hp := p2_10 v
      have e1 : Int.tmod (v : Int) 10 = ((v % 10 : Nat) : Int) := by rw [Int.tmod_eq_emod_of_nonneg (by omega)]; omega
      have e2 : Int.tdiv (v : Int) 10 = ((v / 10 : Nat) : Int) := by rw [Int.tdiv_eq_ediv_of_nonneg (by omega)]; omega
      rw [if_neg (by omega), if_neg h0, e1, e2, zwr_id (by omega) (by omega), zshl1 (v % 10) (by omega), zor_nat (by omega) (by omega), show (k : Int) + 1 = ((k + 1 : Nat) : Int) by omega]
      exact ih (k + 1) (v / 10) _ (by omega) (by rw [Nat.pow_succ] at hv; omega) (Nat.or_lt_two_pow (n := 10) ha (by omega))
theorem k_figuresOf (d v : Nat) (g : zG) (h : v < 10000) : EvM d 136 [.inl (v : Int)] g = some (some (.inl (fgN 4 v 0 : Int)), g) := by
  rw [en136]
  simp only [e136_0, e136_1, e136_2, e136_3, e136_4, e136_5, e136_7, e136_8, e136_11, e136_12, e136_15, e136_16, e136_17, e136_18, e136_20, e136_21, e136_22, e136_23, e136_24, e136_25, e136_27, e136_28, e136_29, e136_32, e136_35, e136_36]
  exact k_figL d v g 4 0 v 0 (by omega) (by omega) (by omega)
theorem k_holds (d v : Nat) (so nu tu : Int) (g : zG) (hc : cR so nu tu) (hv : v < 10000) : EvM d 137 [.inl so, .inl nu, .inl (v : Int), .inl (fgN 4 v 0 : Int)] g = some (some (.inl (zb (hit so nu v = true))), g) := by
  rw [en137]
  rcases hc.2 with ⟨rfl, h1, h2⟩ | ⟨rfl, h1, h2⟩
  · obtain ⟨f, rfl⟩ : ∃ f : Nat, nu = (f : Int) := ⟨nu.toNat, by omega⟩
    have hl := fgN_lt 4 v 0 (by omega)
    simp (disch := omega) only [e137_0, e137_1, e137_4, e137_5, e137_6, e137_7, e137_8, e137_9, e137_10, e137_13, e137_14, e137_17, e137_18, e137_19, e137_20, e137_23, e137_24, e137_25, e137_26, e137_29, e137_30, e137_33, e137_34, zU_app, zbI_some, zbV_some, Int.reduceToNat, Int.reduceLE, Int.reduceLT, Int.reduceEq, Nat.reduceEqDiff, and_self, and_true, true_and, and_false, false_and, if_true, if_false, ne_eq, not_true_eq_false, not_false_eq_true, reduceCtorEq, eq_self, true_or, or_true, or_false, false_or, zbR_some, zwr_id, if_pos, if_neg]
    rw [zbit (by omega) (by omega), fgN_has]
    unfold hit
    rw [if_pos rfl]
    cases hasF v (f : Int) <;> simp [zb]
  · simp (disch := omega) only [e137_0, e137_1, e137_4, e137_5, e137_6, e137_7, e137_8, e137_9, e137_10, e137_13, e137_14, e137_17, e137_18, e137_19, e137_20, e137_23, e137_24, e137_25, e137_26, e137_29, e137_30, e137_33, e137_34, zU_app, zbI_some, zbV_some, Int.reduceToNat, Int.reduceLE, Int.reduceLT, Int.reduceEq, Nat.reduceEqDiff, and_self, and_true, true_and, and_false, false_and, if_true, if_false, ne_eq, not_true_eq_false, not_false_eq_true, reduceCtorEq, eq_self, true_or, or_true, or_false, false_or, zbR_some, zwr_id, if_pos, if_neg]
    have e1 : Int.tmod (v : Int) nu = (v : Int) % nu := Int.tmod_eq_emod_of_nonneg (by omega)
    rw [e1, show hit 1 nu v = decide ((v : Int) % nu = 0) from rfl]
    by_cases q : (v : Int) % nu = 0
    · simp [q, zb]
    · simp [q, zb]
def RuX (w : Nat → Int) : Prop := (0 ≤ w 18 ∧ w 18 ≤ 7) ∧ ∀ r, r < nR w → cR (w (40 + 4 * r)) (w (40 + 4 * r + 1)) (w (40 + 4 * r + 2)) ∧ (w (40 + 4 * r + 3) = 0 ∨ w (40 + 4 * r + 3) = 1)
theorem RuX.ok {w : Nat → Int} (h : RuX w) : RuOk w := ⟨h.1.1, h.1.2, fun r hr h0 => by
  obtain ⟨⟨-, q⟩, -⟩ := h.2 r hr
  rcases q with ⟨q, -, -⟩ | ⟨-, q1, q2⟩
  · exact absurd q h0
  · omega⟩
theorem RuX.nr {w : Nat → Int} (h : RuX w) : ((nR w : Nat) : Int) = w 18 ∧ nR w ≤ 7 := by unfold nR; have := h.1; omega
def onB (w : Nat → Int) (r : Nat) : Bool := decide (w (40 + 4 * r + 3) = 1)
def tuB (w : Nat → Int) (t : Int) (r : Nat) : Bool := decide (w (40 + 4 * r + 2) = t)
def RuAt (g : zG) (j : Nat) (w : Nat → Int) : Prop := g 6 j 0 = w 18 ∧ (∀ r, r < nR w → g 32 j r = w (40 + 4 * r) ∧ g 33 j r = w (40 + 4 * r + 1) ∧ g 34 j r = w (40 + 4 * r + 2)) ∧ g 6 j 4 = (mk (onB w) (nR w) : Int) ∧ g 6 j 5 = (mk (tuB w 1) (nR w) : Int) ∧ g 6 j 6 = (mk (tuB w 2) (nR w) : Int)
theorem mk128 (P : Nat → Bool) {n : Nat} (h : n ≤ 7) : mk P n < 128 := by
  have := mk_lt P n
  have h3 : 2 ^ n ≤ 2 ^ 7 := Nat.pow_le_pow_right (by decide) h
  omega
theorem k_maskL (d v j : Nat) {w : Nat → Int} (g : zG) (hA : RuAt g j w) (hX : RuX w) (hv : v < 10000) : ∀ (m r : Nat), r + m = nR w → Ev (d + 1) 135 19 [some (.inr (6, j)), some (.inl (v : Int)), some (.inl (fgN 4 v 0 : Int)), some (.inl (mk (hoW w v) r : Int)), some (.inl (r : Int))] [] g = some (some (.inl (maW w v : Int)), g) := by
  obtain ⟨a0, a1, a2, a3, a4⟩ := hA
  obtain ⟨n1, n2⟩ := hX.nr
  intro m
  induction m with
  | zero =>
    intro r hr
    have hr : r = nR w := by omega
    rw [e135_19]
    simp (disch := omega) only [e135_0, e135_1, e135_4, e135_7, e135_8, e135_9, e135_10, e135_13, e135_14, e135_15, e135_16, e135_17, e135_21, e135_22, e135_25, e135_28, e135_30, e135_32, e135_35, e135_36, e135_39, e135_41, e135_42, e135_43, e135_44, e135_45, e135_48, e135_49, e135_52, e135_54, e135_55, e135_56, e135_59, e135_61, e135_62, e135_63, e135_64, e135_67, e135_70, e135_71, e135_72, e135_74, e135_75, e135_76, e135_77, e135_80, e135_83, e135_84, zU_app, zbI_some, zbV_some, Int.reduceToNat, Int.reduceLE, Int.reduceLT, Int.reduceEq, Nat.reduceEqDiff, and_self, and_true, true_and, and_false, false_and, if_true, if_false, ne_eq, not_true_eq_false, not_false_eq_true, reduceCtorEq, eq_self, true_or, or_true, or_false, false_or, zbR_some, zwr_id, if_pos, if_neg, a0]
    rw [hr]
    rfl
  | succ m ih =>
    intro r hr
    obtain ⟨b0, b1, b2⟩ := a1 r (by omega)
    obtain ⟨x1, x2⟩ := hX.2 r (by omega)
    have hl := mk_lt (hoW w v) r
    have h128 : 2 ^ r ≤ 2 ^ 7 := Nat.pow_le_pow_right (by decide) (by omega)
    have hmo := mk128 (onB w) n2
    have next := ih (r + 1) (by omega)
    rw [mk] at next
    have er : (r : Int) + 1 = ((r + 1 : Nat) : Int) := by omega
    have es : zor (mk (hoW w v) r : Int) (zshl 1 (r : Int)) = ((mk (hoW w v) r + 2 ^ r : Nat) : Int) := by
      rw [zshl1 r (by omega), zor_nat (by omega) (by omega), or_pow hl]
    have eb : zand (zshr (mk (onB w) (nR w) : Int) (r : Int)) 1 = if onB w r then 1 else 0 := by
      rw [zbit (by omega) (by omega), mk_bit, decide_eq_true (show r < nR w by omega), Bool.true_and]
    rw [e135_19]
    simp (disch := omega) only [e135_0, e135_1, e135_4, e135_7, e135_8, e135_9, e135_10, e135_13, e135_14, e135_15, e135_16, e135_17, e135_21, e135_22, e135_25, e135_28, e135_30, e135_32, e135_35, e135_36, e135_39, e135_41, e135_42, e135_43, e135_44, e135_45, e135_48, e135_49, e135_52, e135_54, e135_55, e135_56, e135_59, e135_61, e135_62, e135_63, e135_64, e135_67, e135_70, e135_71, e135_72, e135_74, e135_75, e135_76, e135_77, e135_80, e135_83, e135_84, zU_app, zbI_some, zbV_some, Int.reduceToNat, Int.reduceLE, Int.reduceLT, Int.reduceEq, Nat.reduceEqDiff, and_self, and_true, true_and, and_false, false_and, if_true, if_false, ne_eq, not_true_eq_false, not_false_eq_true, reduceCtorEq, eq_self, true_or, or_true, or_false, false_or, zbR_some, zwr_id, if_pos, if_neg, a0, a2, eb, es, er, Int.toNat_natCast, b0, b1, k_holds _ _ _ _ _ _ x1 hv]
    by_cases ho : onB w r = true
    · have hh : hoW w v r = hit (w (40 + 4 * r)) (w (40 + 4 * r + 1)) v := by
        show (onB w r && _) = _
        rw [ho, Bool.true_and]
      rw [hh] at next
      rw [if_pos ho, if_neg (by decide)]
      by_cases hq : hit (w (40 + 4 * r)) (w (40 + 4 * r + 1)) v = true
      · rw [zb_t hq, if_neg (by decide)]
        rw [if_pos hq] at next
        exact next
      · rw [zb_f hq, if_pos rfl]
        rw [if_neg hq, Nat.add_zero] at next
        exact next
    · rw [if_neg ho, if_pos (by decide)]
      have hh : hoW w v r = false := by
        show (onB w r && _) = _
        rw [Bool.eq_false_iff.mpr ho, Bool.false_and]
      rw [hh, if_neg (by decide), Nat.add_zero] at next
      exact next
theorem k_mask (d v j : Nat) {w : Nat → Int} (g : zG) (hA : RuAt g j w) (hX : RuX w) (hv : v < 10000) : EvM (d + 1) 135 [.inr (6, j), .inl (v : Int)] g = some (some (.inl (maW w v : Int)), g) := by
  have h := k_maskL d v j g hA hX hv (nR w) 0 (by omega)
  rw [en135]
  simp only [e135_0, e135_1, e135_4, e135_7, e135_8, e135_9, e135_10, e135_13, e135_14, e135_15, e135_16, e135_17, e135_21, e135_22, e135_25, e135_28, e135_30, e135_32, e135_35, e135_36, e135_39, e135_41, e135_42, e135_43, e135_44, e135_45, e135_48, e135_49, e135_52, e135_54, e135_55, e135_56, e135_59, e135_61, e135_62, e135_63, e135_64, e135_67, e135_70, e135_71, e135_72, e135_74, e135_75, e135_76, e135_77, e135_80, e135_83, e135_84, k_figuresOf d v g hv, zbI_some, hA.2.2.1]
  by_cases h0 : mk (onB w) (nR w) = 0
  · rw [if_neg (by omega)]
    have h1 := mk_zero.mp h0
    have h2 : maW w v = 0 := mk_zero.mpr (fun r hr => by
      show (onB w r && _) = false
      rw [h1 r hr, Bool.false_and])
    rw [h2]
    rfl
  · rw [if_pos (by omega)]
    exact h
theorem zpc_cn : ∀ m : Nat, m < 128 → zpc m = cn (fun r => m.testBit r) 7 := by decide +kernel
theorem cn_cut (P : Nat → Bool) (n : Nat) : ∀ m, n ≤ m → cn (fun r => decide (r < n) && P r) m = cn P n
  | 0, h => by
    have : n = 0 := by omega
    subst this
    rfl
  | m + 1, h => by
    by_cases e : n = m + 1
    · subst e
      exact cn_cong (fun r hr => by rw [decide_eq_true hr, Bool.true_and])
    · rw [cn, cn_cut P n m (by omega), decide_eq_false (by omega), Bool.false_and]
      simp
theorem zpc_mk (P : Nat → Bool) {n : Nat} (h : n ≤ 7) : zpc (mk P n) = cn P n := by
  rw [zpc_cn _ (mk128 P h), ← cn_cut P n 7 h]
  exact cn_cong (fun r _ => mk_bit P n r)
theorem mk_and (P Q : Nat → Bool) (n : Nat) : mk P n &&& mk Q n = mk (fun r => P r && Q r) n := by
  apply Nat.eq_of_testBit_eq
  intro i
  rw [Nat.testBit_and, mk_bit, mk_bit, mk_bit]
  cases decide (i < n) <;> simp
theorem ma_tu {w : Nat → Int} (hX : RuX w) (v : Nat) {t : Int} (ht : t ≠ -1) : zpc (maW w v &&& mk (tuB w t) (nR w)) = ctW w v t := by
  unfold maW ctW
  rw [mk_and, zpc_mk _ hX.nr.2]
  apply cn_cong
  intro r _
  rw [decide_eq_false ht, Bool.false_or]
  rfl
theorem ma_all {w : Nat → Int} (hX : RuX w) (v : Nat) : zpc (maW w v) = ctW w v (-1) := by
  unfold maW ctW
  rw [zpc_mk _ hX.nr.2]
  apply cn_cong
  intro r _
  simp
theorem k_turnsIn (d v j : Nat) {w : Nat → Int} (g : zG) (hA : RuAt g j w) (hX : RuX w) : EvM (d + 1) 160 [.inr (6, j), .inl (maW w v : Int)] g = some (some (.inl (ctW w v 1 : Int)), g) := by
  have h1 := maW_lt hX.ok v
  have h2 := mk128 (tuB w 1) hX.nr.2
  have h3 : maW w v &&& mk (tuB w 1) (nR w) < 128 := Nat.lt_of_le_of_lt Nat.and_le_left h1
  rw [en160]
  simp only [e160_0, e160_1, e160_2, e160_5, e160_6, e160_9, hA.2.2.2.1, zand_nat (show maW w v < 2147483648 by omega) (show mk (tuB w 1) (nR w) < 2147483648 by omega), j_bitCount _ _ _ h3, zbI_some, ma_tu hX v (show (1 : Int) ≠ -1 by decide)]
theorem k_skipsIn (d v j : Nat) {w : Nat → Int} (g : zG) (hA : RuAt g j w) (hX : RuX w) : EvM (d + 1) 161 [.inr (6, j), .inl (maW w v : Int)] g = some (some (.inl (ctW w v 2 : Int)), g) := by
  have h1 := maW_lt hX.ok v
  have h2 := mk128 (tuB w 2) hX.nr.2
  have h3 : maW w v &&& mk (tuB w 2) (nR w) < 128 := Nat.lt_of_le_of_lt Nat.and_le_left h1
  rw [en161]
  simp only [e161_0, e161_1, e161_2, e161_5, e161_6, e161_9, hA.2.2.2.2, zand_nat (show maW w v < 2147483648 by omega) (show mk (tuB w 2) (nR w) < 2147483648 by omega), j_bitCount _ _ _ h3, zbI_some, ma_tu hX v (show (2 : Int) ≠ -1 by decide)]
theorem k_runL (d j : Nat) {w : Nat → Int} (x : Int) (g : zG) (hA : RuAt g j w) (hX : RuX w) : ∀ (k n : Nat), k < 10000 → n + k < 20000 → Ev (d + 2) 134 4 [some (.inr (6, j)), some (.inl x), some (.inl (n : Int)), some (.inl (k : Int))] [] g = some (some (.inl ((n + rnW w k : Nat) : Int)), g) := by
  intro k
  induction k with
  | zero =>
    intro n h1 h2
    rw [e134_4]
    simp (disch := omega) only [e134_0, e134_1, e134_2, e134_3, e134_5, e134_6, e134_9, e134_10, e134_11, e134_14, e134_17, e134_20, e134_23, e134_26, e134_27, zU_app, zbI_some, zbV_some, Int.reduceToNat, Int.reduceLE, Int.reduceLT, Int.reduceEq, Nat.reduceEqDiff, and_self, and_true, true_and, and_false, false_and, if_true, if_false, ne_eq, not_true_eq_false, not_false_eq_true, reduceCtorEq, eq_self, true_or, or_true, or_false, false_or, zbR_some, zwr_id, if_pos, if_neg]
    rfl
  | succ k ih =>
    intro n h1 h2
    have next := ih (n + 1) (by omega) (by omega)
    rw [e134_4]
    simp (disch := omega) only [e134_0, e134_1, e134_2, e134_3, e134_5, e134_6, e134_9, e134_10, e134_11, e134_14, e134_17, e134_20, e134_23, e134_26, e134_27, zU_app, zbI_some, zbV_some, Int.reduceToNat, Int.reduceLE, Int.reduceLT, Int.reduceEq, Nat.reduceEqDiff, and_self, and_true, true_and, and_false, false_and, if_true, if_false, ne_eq, not_true_eq_false, not_false_eq_true, reduceCtorEq, eq_self, true_or, or_true, or_false, false_or, zbR_some, zwr_id, if_pos, if_neg, k_mask _ _ _ _ hA hX h1]
    rw [rnW]
    by_cases hm : maW w (k + 1) = 0
    · rw [if_pos (by omega), if_pos hm]
      rfl
    · rw [if_neg (by omega), if_neg hm, show ((k + 1 : Nat) : Int) + -1 = (k : Int) by omega, show (n : Int) + 1 = ((n + 1 : Nat) : Int) by omega, next]
      congr 4
      omega
theorem k_runUpTo (d v j : Nat) {w : Nat → Int} (g : zG) (hA : RuAt g j w) (hX : RuX w) (hv : v < 10000) : EvM (d + 2) 134 [.inr (6, j), .inl (v : Int)] g = some (some (.inl (rnW w v : Int)), g) := by
  rw [en134]
  simp only [e134_0, e134_1, e134_2, e134_3, e134_5, e134_6, e134_9, e134_10, e134_11, e134_14, e134_17, e134_20, e134_23, e134_26, e134_27]
  have := k_runL d j v g hA hX v 0 hv (by omega)
  rw [Nat.zero_add] at this
  exact this
