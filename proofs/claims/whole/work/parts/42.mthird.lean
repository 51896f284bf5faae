/-! the model: third, fewest -/
def uW (w : Nat → Int) (i : Nat) (x : Int) : Nat → Int := fun n => if n = i then x else w n
theorem zU_row (g : zG) (k j i : Nat) (x : Int) : zU g k j i x k j = uW (g k j) i x := by
  funext n
  unfold zU uW
  by_cases h : n = i
  · rw [if_pos ⟨rfl, rfl, h⟩, if_pos h]
  · rw [if_neg (fun q => h q.2.2), if_neg h]
theorem uW_eq (w : Nat → Int) (i : Nat) (x : Int) : uW w i x i = x := if_pos rfl
theorem uW_ne {w : Nat → Int} {i n : Nat} {x : Int} (h : n ≠ i) : uW w i x n = w n := if_neg h
def wRu (w : Nat → Int) (r : Nat) (so nu tu : Int) : Nat → Int := uW (uW (uW (uW w (40 + 4 * r + 0) so) (40 + 4 * r + 1) nu) (40 + 4 * r + 2) tu) (40 + 4 * r + 3) 1
theorem uRu_row (g : zG) (r : Nat) (so nu tu : Int) : uRu g r so nu tu 46 0 = wRu (g 46 0) r so nu tu := by
  unfold uRu wRu
  rw [zU_row, zU_row, zU_row, zU_row]
theorem wRu_ne {w : Nat → Int} {r i : Nat} {so nu tu : Int} (h : i < 40 + 4 * r ∨ 44 + 4 * r ≤ i) : wRu w r so nu tu i = w i := by
  unfold wRu
  rw [uW_ne (by omega), uW_ne (by omega), uW_ne (by omega), uW_ne (by omega)]
theorem uRu_fr (g : zG) (r : Nat) (so nu tu : Int) : Fr (fun k j i => k = 46 ∧ j = 0 ∧ 40 + 4 * r ≤ i ∧ i < 44 + 4 * r) g (uRu g r so nu tu) := by
  intro k j i h
  unfold uRu
  rw [zU_ne (by omega), zU_ne (by omega), zU_ne (by omega), zU_ne (by omega)]
/-- the rules with one more -/
def wT (w : Nat → Int) (so nu tu : Int) : Nat → Int := uW (wRu w (nR w) so nu tu) 18 (w 18 + 1)
theorem wT_ne {w : Nat → Int} {i : Nat} {so nu tu : Int} (h : i < 40 + 4 * nR w ∨ 44 + 4 * nR w ≤ i) (h' : i ≠ 18) : wT w so nu tu i = w i := by
  unfold wT
  rw [uW_ne h', wRu_ne h]
theorem wT_18 (w : Nat → Int) (so nu tu : Int) : wT w so nu tu 18 = w 18 + 1 := uW_eq _ _ _
theorem RuOk.tw {w : Nat → Int} {so nu tu : Int} (h : RuOk w) (h6 : w 18 ≤ 6) (hc : cR so nu tu) : RuOk (wT w so nu tu) := by
  obtain ⟨h1, h2, h3⟩ := h
  have e : nR (wT w so nu tu) = nR w + 1 := by unfold nR; rw [wT_18]; omega
  have hn : nR w ≤ 6 := by unfold nR; omega
  refine ⟨by rw [wT_18]; omega, by rw [wT_18]; omega, ?_⟩
  intro r hr
  rw [e] at hr
  rcases Nat.lt_or_ge r (nR w) with q | q
  · rw [wT_ne (by omega) (by omega), wT_ne (by omega) (by omega)]
    exact h3 r q
  · have e : r = nR w := by omega
    subst e
    have a0 : wT w so nu tu (40 + 4 * nR w) = so := by
      unfold wT wRu
      rw [uW_ne (by omega), uW_ne (by omega), uW_ne (by omega), uW_ne (by omega)]
      exact uW_eq _ _ _
    have a1 : wT w so nu tu (40 + 4 * nR w + 1) = nu := by
      unfold wT wRu
      rw [uW_ne (by omega), uW_ne (by omega), uW_ne (by omega)]
      exact uW_eq _ _ _
    rw [a0, a1]
    intro q
    rcases hc.2 with z | z <;> omega
theorem opW_cg {w w' : Nat → Int} (h : ∀ i, 480 ≤ i → w' i = w i) (b e : Nat) : opW w' b e = opW w b e := by
  unfold opW
  apply List.map_congr_left
  intro k _
  rw [h _ (by omega), h _ (by omega)]
theorem LwOk.cg {w w' : Nat → Int} (h : ∀ i, 480 ≤ i → w' i = w i) (hl : LwOk w) : LwOk w' := by
  unfold LwOk at *
  rw [h 485 (by omega)]
  refine ⟨hl.1, hl.2.1, fun i hi => ?_⟩
  rw [h (490 + i) (by omega), h (510 + i) (by omega), h (530 + i) (by omega), opW_cg h, opW_cg h]
  exact hl.2.2 i hi
theorem SeOk.cg {w w' : Nat → Int} (h17 : w' 17 = w 17) (hm : w 17 ≤ 8) (h : ∀ i, i < 8 → w' (28 + i) = w (28 + i)) (hl : SeOk w) : SeOk w' := by
  unfold SeOk at *
  rw [h17]
  refine ⟨fun p hp => ?_, fun p q hp hq => ?_, fun s hs => ?_⟩
  · rw [h p (by omega)]; exact hl.1 p hp
  · rw [h p (by omega), h q (by omega)]; exact hl.2.1 p q hp hq
  · obtain ⟨p, p1, p2⟩ := hl.2.2 s hs
    exact ⟨p, p1, by rw [h p (by omega)]; exact p2⟩
theorem PeOk.cg {w w' : Nat → Int} (h17 : w' 17 = w 17) (h : ∀ i, i < 8 → w' (28 + i) = w (28 + i)) (hl : PeOk w) : PeOk w' := ⟨by rw [h17]; exact hl.1, by rw [h17]; exact hl.2.1, hl.2.2.cg h17 hl.2.1 h⟩
theorem NoOk.cg {w w' : Nat → Int} (h17 : w' 17 = w 17) (h : ∀ i, i < 4 → w' i = w i) (hl : NoOk w) : NoOk w' := by
  unfold NoOk at *
  rw [h17, h 0 (by decide), h 1 (by decide), h 2 (by decide), h 3 (by decide)]
  exact hl
def aThird (w : Nat → Int) (so nu tu v : Int) : Int := if ((0 ≤ tu ∧ tu ≤ 2) ∧ ((so = 0 ∧ 0 ≤ nu ∧ nu ≤ 9) ∨ (so = 1 ∧ 2 ≤ nu ∧ nu ≤ 99))) ∧ 0 < w 17 ∧ w 0 ≤ v ∧ v ≤ 9999 then gtW (wT w so nu tu) (v - w 0).toNat (w 0).toNat (w 1) (w 2) (w 3) 1000000 else -1
def sTh (r : Nat) : Nat → Nat → Nat → Prop := fun k j i => sCur k j i ∨ (k = 46 ∧ j = 0 ∧ 40 + 4 * r ≤ i ∧ i < 44 + 4 * r)
theorem m_third {w : Nat → Int} (hR : RuOk w) (h6 : w 18 ≤ 6) (hL : LwOk w) (hP : 0 < w 17 → PeOk w) (hN : NoOk w) (d : Nat) (so nu tu v : Int) (g : zG) (hw : g 46 0 = w) : ∃ g', EvM (d + 4) 225 [.inr (12, 0), .inl so, .inl nu, .inl tu, .inl v] g = some (some (.inl (aThird w so nu tu v)), g') ∧ Fr (sTh (nR w)) g g' := by
  obtain ⟨r, hr, hc⟩ := m_canRule (d + 2) so nu tu g
  have hcc := m_canCome (d + 2) v g
  rw [hw] at hcc
  rcases hc with ⟨rfl, hc⟩ | ⟨rfl, hc⟩
  · by_cases hv : 0 < w 17 ∧ w 0 ≤ v ∧ v ≤ 9999
    · rw [zb_t hv] at hcc
      have h0 := hN.1
      have hn : ((nR w : Nat) : Int) = w 18 := by have := hR.1; unfold nR; omega
      have hn6 : nR w ≤ 6 := by omega
      have hR' := hR.tw h6 hc
      have hL' : LwOk (wT w so nu tu) := hL.cg (fun i hi => wT_ne (by omega) (by omega))
      have hP' : PeOk (wT w so nu tu) := (hP hv.1).cg (wT_ne (by omega) (by omega)) (fun i hi => wT_ne (by omega) (by omega))
      have hN' : NoOk (wT w so nu tu) := hN.cg (wT_ne (by omega) (by omega)) (fun i hi => wT_ne (by omega) (by omega))
      have e0 : wT w so nu tu 0 = w 0 := wT_ne (by omega) (by omega)
      have e1 : wT w so nu tu 1 = w 1 := wT_ne (by omega) (by omega)
      have e2 : wT w so nu tu 2 = w 2 := wT_ne (by omega) (by omega)
      have e3 : wT w so nu tu 3 = w 3 := wT_ne (by omega) (by omega)
      have e17 : wT w so nu tu 17 = w 17 := wT_ne (by omega) (by omega)
      have row : zU (uRu g (nR w) so nu tu) 46 0 18 (w 18 + 1) 46 0 = wT w so nu tu := by
        rw [zU_row, uRu_row, hw]; rfl
      have u18 : uRu g (nR w) so nu tu 46 0 18 = w 18 := by rw [uRu_row, hw]; exact wRu_ne (by omega)
      obtain ⟨g1, a1, a2, a3⟩ := m_begin' hR' d _ row hN'.1
      rw [e0, e1, e2, e3] at a2
      have ho : CuOk (wT w so nu tu) (w 0).toNat (w 1) (w 2) := ⟨by omega, ⟨hN.2.1.1, by rw [e17]; exact hN.2.1.2 hv.1⟩, hN.2.2.1⟩
      obtain ⟨g2, b1, b2⟩ := m_getsTo hR' hL' hP' d v.toNat (w 0).toNat (by omega) (by omega) _ _ _ g1 a2 ho
      rw [show ((v.toNat : Nat) : Int) = v by omega] at b1
      have fr := a3.tr b2
      have r2 : g2 46 0 = wT w so nu tu := (fr.fn (fun i => by simp [sCur])).trans row
      refine ⟨zU g2 46 0 18 (w 18), ?_, ?_⟩
      · have h18 : g 46 0 18 = w 18 := by rw [hw]
        have mr := m_rulesAt (d + 2) (nR w) so nu tu g (by omega)
        rw [hn] at mr
        rw [en225]
        simp only [e225_0, e225_1, e225_2, e225_3, e225_6, e225_9, e225_10, e225_12, e225_15, e225_18, e225_19, e225_20, e225_21, e225_22, e225_25, e225_27, e225_28, e225_29, e225_30, e225_31, e225_34, e225_35, e225_38, e225_40, e225_41, e225_42, e225_43, e225_44, e225_45, e225_46, e225_49, e225_50, e225_52, e225_55, e225_57, e225_58, e225_61, e225_63, e225_64, e225_65, e225_66, e225_67, e225_68, e225_70, hr, hcc, zU_app, zbI_some, zbV_some, Int.reduceToNat, Int.reduceLE, Int.reduceLT, Int.reduceEq, Nat.reduceEqDiff, and_self, and_true, true_and, and_false, false_and, if_true, if_false, ne_eq, not_true_eq_false, not_false_eq_true, reduceCtorEq, h18, mr, u18]
        rw [zwr_id (by omega) (by omega), a1, zbV_some, b1, zbI_some, r2, wT_18, zwr_id (by omega) (by omega), aThird, if_pos ⟨hc, hv⟩, show w 18 + 1 - 1 = w 18 by omega, show (v - w 0).toNat = v.toNat - (w 0).toNat by omega]
      · intro k j i h
        by_cases hq : k = 46 ∧ j = 0 ∧ i = 18
        · obtain ⟨rfl, rfl, rfl⟩ := hq
          rw [zU_eq, hw]
        · rw [zU_ne hq, fr k j i (fun q => h (Or.inl q)), zU_ne hq]
          exact uRu_fr g (nR w) so nu tu k j i (fun q => h (Or.inr q))
    · rw [zb_f hv] at hcc
      refine ⟨g, ?_, Fr.rf⟩
      rw [en225]
      simp only [e225_0, e225_1, e225_2, e225_3, e225_6, e225_9, e225_10, e225_12, e225_15, e225_18, e225_19, e225_20, e225_21, e225_22, e225_25, e225_27, e225_28, e225_29, e225_30, e225_31, e225_34, e225_35, e225_38, e225_40, e225_41, e225_42, e225_43, e225_44, e225_45, e225_46, e225_49, e225_50, e225_52, e225_55, e225_57, e225_58, e225_61, e225_63, e225_64, e225_65, e225_66, e225_67, e225_68, e225_70, hr, hcc, zU_app, zbI_some, zbV_some, Int.reduceToNat, Int.reduceLE, Int.reduceLT, Int.reduceEq, Nat.reduceEqDiff, and_self, and_true, true_and, and_false, false_and, if_true, if_false, ne_eq, not_true_eq_false, not_false_eq_true, reduceCtorEq]
      rw [aThird, if_neg (fun q => hv q.2)]
  · refine ⟨g, ?_, Fr.rf⟩
    rw [en225]
    simp only [e225_0, e225_1, e225_2, e225_3, e225_6, e225_9, e225_10, e225_12, e225_15, e225_18, e225_19, e225_20, e225_21, e225_22, e225_25, e225_27, e225_28, e225_29, e225_30, e225_31, e225_34, e225_35, e225_38, e225_40, e225_41, e225_42, e225_43, e225_44, e225_45, e225_46, e225_49, e225_50, e225_52, e225_55, e225_57, e225_58, e225_61, e225_63, e225_64, e225_65, e225_66, e225_67, e225_68, e225_70, hr, zU_app, zbI_some, zbV_some, Int.reduceToNat, Int.reduceLE, Int.reduceLT, Int.reduceEq, Nat.reduceEqDiff, and_self, and_true, true_and, and_false, false_and, if_true, if_false, ne_eq, not_true_eq_false, not_false_eq_true, reduceCtorEq]
    rw [aThird, if_neg (fun q => hc q.1)]
