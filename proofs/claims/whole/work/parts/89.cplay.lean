/-! THE CLASS: somebody errs, or says the number -/
theorem TbAt.gm {g : zG} {w : Nat → Int} (h : TbAt g 0 w) {p : Nat} (hp : p < 8) (x : Int) : TbAt (zU g 40 0 p x) 0 (uW w (9 + p) x) := by
  refine ⟨by rw [uW_ne (by omega)]; exact h.1, fun q hq => ?_⟩
  rw [uW_ne (by omega)] at hq
  obtain ⟨t0, t1, t2, t3⟩ := h.2 q hq
  by_cases z : q = p
  · subst z
    rw [uW_ne (n := 20 + q) (by omega), uW_ne (n := 28 + q) (by omega), uW_eq]
    exact ⟨t0, zU_eq _ _ _ _ _, t2, t3⟩
  · by_cases h8 : q < 8
    · rw [uW_ne (n := 20 + q) (by omega), uW_ne (n := 28 + q) (by omega), uW_ne (n := 9 + q) (by omega)]
      refine ⟨t0, ?_, t2, t3⟩
      rw [zU_ne (by omega)]; exact t1
    · by_cases z2 : 20 + q = 9 + p
      · omega
      · by_cases z3 : 28 + q = 9 + p
        · omega
        · rw [uW_ne z2, uW_ne z3, uW_ne (n := 9 + q) (by omega)]
          refine ⟨t0, ?_, t2, t3⟩
          rw [zU_ne (by omega)]; exact t1
theorem k_bookW {w : Nat → Int} (d p : Nat) (v : Int) (g : zG) (hB : BkAt g 0 w) (h6 : 0 ≤ w 6 ∧ w 6 ≤ 100) : ∃ g', EvM d 156 [.inr (0, 0), .inl v, .inl (p : Int), .inl (w 8), .inl (glW w)] g = some (none, g') ∧ BkAt g' 0 (pgW w p v) ∧ Fr (fun k a _ => a = 0 ∧ (k = 0 ∨ (20 ≤ k ∧ k ≤ 23))) g g' := by
  obtain ⟨n, hn⟩ : ∃ n : Nat, w 6 = (n : Int) := ⟨(w 6).toNat, by omega⟩
  obtain ⟨b0, b1⟩ := hB
  rw [hn] at b0
  unfold pgW
  by_cases h : w 6 < 100
  · rw [if_pos h, hn, Int.toNat_natCast]
    refine ⟨zU (zU (zU (zU (zU g 20 0 n v) 21 0 n p) 22 0 n (w 8)) 23 0 n (glW w)) 0 0 0 ((n : Int) + 1), ?_, ⟨?_, ?_⟩, ?_⟩
    · rw [en156]
      simp (disch := omega) only [e156_0, e156_1, e156_4, e156_6, e156_9, e156_10, e156_11, e156_14, e156_15, e156_18, e156_19, e156_20, e156_21, e156_24, e156_25, e156_28, e156_29, e156_30, e156_31, e156_34, e156_35, e156_38, e156_39, e156_40, e156_41, e156_44, e156_45, e156_48, e156_50, e156_51, e156_52, e156_53, e156_56, e156_57, e156_58, e156_61, zU_app, zbI_some, zbV_some, Int.reduceToNat, Int.reduceLE, Int.reduceLT, Int.reduceEq, Nat.reduceEqDiff, and_self, and_true, true_and, and_false, false_and, if_true, if_false, ne_eq, not_true_eq_false, not_false_eq_true, reduceCtorEq, eq_self, true_or, or_true, or_false, false_or, zbR_some, zwr_id, if_pos, if_neg, b0, Int.toNat_natCast]
    · rw [uW_eq]; rfl
    · intro i hi
      rw [uW_eq] at hi
      by_cases z : i = n
      · subst z
        refine ⟨?_, ?_, ?_, ?_⟩
        · rw [uW_ne (by omega), uW_ne (by omega), uW_ne (by omega), uW_ne (by omega), uW_eq]; simp [zU_app]
        · rw [uW_ne (by omega), uW_ne (by omega), uW_ne (by omega), uW_eq]; simp [zU_app]
        · rw [uW_ne (by omega), uW_ne (by omega), uW_eq]; simp [zU_app]
        · rw [uW_ne (by omega), uW_eq]; simp [zU_app]
      · obtain ⟨c0, c1, c2, c3⟩ := b1 i (by omega)
        have ne : ∀ f, f < 4 → uW (uW (uW (uW (uW w (80 + 4 * n) v) (80 + 4 * n + 1) p) (80 + 4 * n + 2) (w 8)) (80 + 4 * n + 3) (glW w)) 6 ((n : Int) + 1) (80 + 4 * i + f) = w (80 + 4 * i + f) := fun f hf => by
          rw [uW_ne (by omega), uW_ne (by omega), uW_ne (by omega), uW_ne (by omega), uW_ne (by omega)]
        refine ⟨?_, ?_, ?_, ?_⟩
        · refine Eq.trans ?_ (ne 0 (by decide)).symm
          refine Eq.trans ?_ c0
          simp [zU_app, z]
        · rw [ne 1 (by decide), ← c1]; simp [zU_app, z]
        · rw [ne 2 (by decide), ← c2]; simp [zU_app, z]
        · rw [ne 3 (by decide), ← c3]; simp [zU_app, z]
    · exact ((((Fr.u (by omega)).tr (Fr.u (by omega))).tr (Fr.u (by omega))).tr (Fr.u (by omega))).tr (Fr.u (by omega))
  · rw [if_neg h]
    refine ⟨g, ?_, ⟨by rw [hn]; exact b0, b1⟩, Fr.rf⟩
    rw [en156]
    simp (disch := omega) only [e156_0, e156_1, e156_4, e156_6, e156_9, e156_10, e156_11, e156_14, e156_15, e156_18, e156_19, e156_20, e156_21, e156_24, e156_25, e156_28, e156_29, e156_30, e156_31, e156_34, e156_35, e156_38, e156_39, e156_40, e156_41, e156_44, e156_45, e156_48, e156_50, e156_51, e156_52, e156_53, e156_56, e156_57, e156_58, e156_61, zU_app, zbI_some, zbV_some, Int.reduceToNat, Int.reduceLE, Int.reduceLT, Int.reduceEq, Nat.reduceEqDiff, and_self, and_true, true_and, and_false, false_and, if_true, if_false, ne_eq, not_true_eq_false, not_false_eq_true, reduceCtorEq, eq_self, true_or, or_true, or_false, false_or, zbR_some, zwr_id, if_pos, if_neg, b0]
theorem gm_min (x : Int) : (if x + 1 < 9999 then x + 1 else 9999) = if 9999 < x + 1 then 9999 else x + 1 := by
  by_cases h : x + 1 < 9999
  · rw [if_pos h, if_neg (by omega)]
  · rw [if_neg h]
    by_cases h2 : 9999 < x + 1
    · rw [if_pos h2]
    · rw [if_neg h2]; omega
set_option maxHeartbeats 1000000 in
theorem k_err {w : Nat → Int} {ls : List (List (Int × Int) × List (Int × Int))} (hX : RuX w) (hg : GlOk w) (h17 : 0 ≤ w 17 ∧ w 17 ≤ 8) (h6 : 0 ≤ w 6 ∧ w 6 ≤ 100) (d p : Nat) (hp : (p : Int) < w 17) (g : zG) (h : RdAt g 0 w ls) : ∃ g', EvM (d + 2) 154 [.inr (5, 0), .inl (p : Int)] g = some (none, g') ∧ RdAt g' 0 (uW (erW w p (w 0)) 8 p) ls ∧ Fr (sRd 0) g g' := by
  obtain ⟨h0, h1, h2, h3, h4, h5⟩ := h
  have hp8 : p < 8 := by omega
  have hgp := hg p hp8
  have t1 := (h0.2 p hp).2.1
  have k1 := k_glassesOf (d) 0 p (w 17) g h0.1 h17.2
  rw [if_pos (by omega), Int.toNat_natCast, t1] at k1
  have k2 := k_fill d 0 p (w 17) (if 9999 < w (9 + p) + 1 then 9999 else w (9 + p) + 1) g h0.1 h17.2
  have hG : 0 ≤ (if 9999 < w (9 + p) + 1 then 9999 else w (9 + p) + 1) ∧ (if 9999 < w (9 + p) + 1 then 9999 else w (9 + p) + 1) ≤ 9999 := by split <;> omega
  rw [if_pos (show ((0 : Int) ≤ (p : Int) ∧ (p : Int) < w 17) ∧ 0 ≤ (if 9999 < w (9 + p) + 1 then 9999 else w (9 + p) + 1) ∧ (if 9999 < w (9 + p) + 1 then 9999 else w (9 + p) + 1) ≤ 9999 from ⟨⟨by omega, hp⟩, hG⟩), Int.toNat_natCast] at k2
  let g1 := zU g 40 0 p (if 9999 < w (9 + p) + 1 then 9999 else w (9 + p) + 1)
  have hT1 : TbAt g1 0 (gmW w p) := h0.gm hp8 _
  have e17 : gmW w p 17 = w 17 := gmW_ne (by omega)
  have k3 := k_allGlasses (gmW_ok hg hp8) (by rw [e17]; exact h17) (d + 1) 0 g1 hT1
  have hB1 : BkAt g1 0 (gmW w p) := BkAt.cg (g := g1) h5 (gmW_ne (by omega)) h6.2 (fun i q1 q2 => gmW_ne (by omega))
  obtain ⟨g2, e2, hB2, f2⟩ := k_bookW (d + 1) p (w 0) g1 hB1 (by rw [gmW_ne (by omega)]; exact h6)
  have e8 : gmW w p 8 = w 8 := gmW_ne (by omega)
  rw [e8] at e2
  obtain ⟨c0, c1, c2, c3, c4, c5, c6, c7⟩ := h4
  have r0 : g1 1 0 0 = w 0 := c0
  have r7 : g1 1 0 7 = w 8 := c7
  let g3 := zU g2 1 0 7 (p : Int)
  have zz : zwr (w (9 + p) + 1) = w (9 + p) + 1 := zwr_id (by omega) (by omega)
  have m1 := j_min (d + 1) 9999 (w (9 + p) + 1) g
  rw [gm_min] at m1
  have n6 : 0 ≤ w 6 := h6.1
  have nE : ∀ i, (4 ≤ i ∧ i < 8 ∧ i ≠ 6) ∨ i = 1 ∨ (17 ≤ i ∧ i < 80) ∨ 480 ≤ i → uW (erW w p (w 0)) 8 (p : Int) i = w i := fun i hi => by
    rw [uW_ne (by omega)]
    exact erW_ne hp8 n6 (by omega)
  refine ⟨zU (zU (zU g3 1 0 0 1) 1 0 2 1) 1 0 3 0, ?_, ⟨?_, ?_, ?_, ?_, ?_, ?_⟩, ?_⟩
  · rw [en154]
    simp only [e154_0, e154_1, e154_4, e154_5, e154_8, e154_9, e154_12, e154_13, e154_16, e154_17, e154_18, e154_21, e154_24, e154_25, e154_26, e154_29, e154_30, e154_33, e154_36, e154_37, e154_38, e154_41, e154_44, e154_45, e154_48, e154_51, e154_54, e154_55, e154_58, e154_59, e154_62, e154_63, e154_66, e154_69, zU_app, zbI_some, zbV_some, Int.reduceToNat, Int.reduceLE, Int.reduceLT, Int.reduceEq, Nat.reduceEqDiff, and_self, and_true, true_and, and_false, false_and, if_true, if_false, ne_eq, not_true_eq_false, not_false_eq_true, reduceCtorEq, eq_self, true_or, or_true, or_false, false_or, zbR_some, k1, zz, m1, k2, show zU g 40 0 p (if 9999 < w (9 + p) + 1 then 9999 else w (9 + p) + 1) = g1 from rfl, k3, r0, r7, e2, k_restart]
    rfl
  · have hT2 : TbAt g2 0 (gmW w p) := hT1.on (fun k x q => f2 k 0 x (by omega))
    have hT3 : TbAt (zU (zU (zU g3 1 0 0 1) 1 0 2 1) 1 0 3 0) 0 (gmW w p) := hT2
    refine hT3.cg ?_ (fun i hi => ?_) (by rw [e17]; exact h17.2)
    · rw [nE 17 (by omega), e17]
    · rw [uW_ne (by omega)]
      show rsW (pgW (gmW w p) p (w 0)) i = _
      rw [rsW_ne (by omega) (by omega) (by omega), pgW_ne (by omega) (by omega) (by rw [gmW_ne (by omega)]; exact n6)]
  · have hA2 : RuAt g2 0 w := RuAt.on (g := g1) h1 (fun k x q => f2 k 0 x (by omega))
    exact RuAt.cg (g := g2) hA2 hX (nE 18 (by omega)) (fun i q1 q2 => nE i (by omega))
  · have hL2 : LcAt g2 0 ls := LcAt.on (g := g1) h2 (fun k x q => f2 k 0 x (by omega))
    exact hL2
  · rw [nE 19 (by omega)]
    show g2 5 0 5 = _
    rw [f2 5 0 5 (by omega)]; exact h3
  · have q1 : uW (erW w p (w 0)) 8 (p : Int) 0 = 1 := rfl
    have q2 : uW (erW w p (w 0)) 8 (p : Int) 2 = 1 := rfl
    have q3 : uW (erW w p (w 0)) 8 (p : Int) 3 = 0 := rfl
    refine ⟨rfl, ?_, rfl, rfl, ?_, ?_, ?_, ?_⟩
    · rw [nE 1 (by omega)]
      show g2 1 0 1 = _
      rw [f2 1 0 1 (by omega)]; exact c1
    · rw [nE 4 (by omega)]
      show g2 1 0 4 = _
      rw [f2 1 0 4 (by omega)]; exact c4
    · rw [nE 5 (by omega)]
      show g2 1 0 5 = _
      rw [f2 1 0 5 (by omega)]; exact c5
    · rw [nE 7 (by omega)]
      show g2 1 0 6 = _
      rw [f2 1 0 6 (by omega)]; exact c6
    · rw [uW_eq]; rfl
  · have e6 : uW (erW w p (w 0)) 8 (p : Int) 6 = pgW (gmW w p) p (w 0) 6 := by
      rw [uW_ne (by omega)]
      show rsW (pgW (gmW w p) p (w 0)) 6 = _
      rw [rsW_ne (by omega) (by omega) (by omega)]
    have hB3 : BkAt (zU (zU (zU g3 1 0 0 1) 1 0 2 1) 1 0 3 0) 0 (pgW (gmW w p) p (w 0)) := hB2
    refine hB3.cg e6 ?_ (fun i q1 q2 => ?_)
    · have := (erW_6 (v := w 0) hp8 h6).2
      rw [← e6, uW_ne (by omega)]
      exact this
    · rw [uW_ne (by omega)]
      show rsW (pgW (gmW w p) p (w 0)) i = _
      rw [rsW_ne (by omega) (by omega) (by omega)]
  · have F1 : Fr (sRd 0) g g1 := Fr.u (by unfold sRd; omega)
    have F2 : Fr (sRd 0) g1 g2 := f2.up (fun k a x q => by unfold sRd; omega)
    exact ((((F1.tr F2).tr (Fr.u (by unfold sRd; omega))).tr (Fr.u (by unfold sRd; omega))).tr (Fr.u (by unfold sRd; omega))).tr (Fr.u (by unfold sRd; omega))
theorem rec_max (a b : Int) : (if a < b then b else a) = if b < a then a else b := by
  by_cases h : a < b
  · rw [if_pos h, if_neg (by omega)]
  · rw [if_neg h]
    by_cases h2 : b < a
    · rw [if_pos h2]
    · rw [if_neg h2]; omega
theorem k_say {w : Nat → Int} {ls : List (List (Int × Int) × List (Int × Int))} (hX : RuX w) (h17 : 0 < w 17 ∧ w 17 ≤ 8) (h6 : 0 ≤ w 6 ∧ w 6 ≤ 100) (d p n : Nat) (hn : w 0 = (n : Int)) (ho : CuOk w n (w 1) (w 2)) (g : zG) (h : RdAt g 0 w ls) : ∃ g', EvM (d + 3) 158 [.inr (5, 0), .inl (p : Int), .inl (maW w n : Int)] g = some (none, g') ∧ RdAt g' 0 (uW (mvW (onW w (w 0)) (nxN n) (seW w n (w 1) (w 2)) (wyW w n (w 2)) (tuW w n)) 8 p) ls ∧ Fr (sRd 0) g g' := by
  obtain ⟨h0, h1, h2, h3, h4, h5⟩ := h
  obtain ⟨c0, c1, c2, c3, c4, c5, c6, c7⟩ := h4
  let g3 := zU (zU (zU g 1 0 4 (if w 0 < w 4 then w 4 else w 0)) 1 0 5 (zwr (w 5 + 1))) 1 0 7 (p : Int)
  have k1 := k_goOn (w := w) d 0 0 n g3 h1 hX h17 (w 1) (w 2) (by rw [← hn]; exact c0) c1 c2 ho
  have m1 := j_max (d + 2) (w 4) (w 0) g
  rw [rec_max] at m1
  have t0 : g3 8 0 0 = w 17 := h0.1
  have ne : ∀ i, 6 ≤ i → i ≠ 8 → uW (mvW (onW w (w 0)) (nxN n) (seW w n (w 1) (w 2)) (wyW w n (w 2)) (tuW w n)) 8 (p : Int) i = w i := fun i q1 q2 => by
    rw [uW_ne q2, mvW_ne (by omega), onW_ne (by omega) (by omega)]
  refine ⟨zU (zU (zU (zU g3 1 0 3 (tuW w n)) 1 0 2 (wyW w n (w 2))) 1 0 1 (seW w n (w 1) (w 2))) 1 0 0 (nxN n : Int), ?_, ⟨?_, ?_, h2, ?_, ?_, ?_⟩, ?_⟩
  · rw [en158]
    simp only [e158_0, e158_1, e158_4, e158_5, e158_8, e158_11, e158_12, e158_15, e158_18, e158_21, e158_24, e158_25, e158_28, e158_29, e158_32, e158_33, e158_34, e158_37, e158_38, e158_41, e158_42, e158_45, e158_46, e158_49, e158_50, e158_53, e158_54, e158_55, e158_58, e158_61, e158_64, zU_app, zbI_some, zbV_some, Int.reduceToNat, Int.reduceLE, Int.reduceLT, Int.reduceEq, Nat.reduceEqDiff, and_self, and_true, true_and, and_false, false_and, if_true, if_false, ne_eq, not_true_eq_false, not_false_eq_true, reduceCtorEq, eq_self, true_or, or_true, or_false, false_or, zbR_some, c4, c0, m1, c5]
    rw [show zU (zU (zU g 1 0 4 (if w 0 < w 4 then w 4 else w 0)) 1 0 5 (zwr (w 5 + 1))) 1 0 7 (p : Int) = g3 from rfl, h0.1, k1]
    rfl
  · exact TbAt.cg (g := g) h0 (ne 17 (by omega) (by omega)) (fun i hi => ne i (by omega) (by omega)) h17.2
  · exact RuAt.cg (g := g) h1 hX (ne 18 (by omega) (by omega)) (fun i q1 q2 => ne i (by omega) (by omega))
  · rw [ne 19 (by omega) (by omega)]; exact h3
  · refine ⟨rfl, rfl, rfl, rfl, ?_, rfl, ?_, rfl⟩
    · show (if w 0 < w 4 then w 4 else w 0) = _
      rfl
    · rw [ne 7 (by omega) (by omega)]; exact c6
  · exact BkAt.cg (g := g) h5 (ne 6 (by omega) (by omega)) h6.2 (fun i q1 q2 => ne i (by omega) (by omega))
  · exact ((((((Fr.u (by unfold sRd; omega)).tr (Fr.u (by unfold sRd; omega))).tr (Fr.u (by unfold sRd; omega))).tr (Fr.u (by unfold sRd; omega))).tr (Fr.u (by unfold sRd; omega))).tr (Fr.u (by unfold sRd; omega))).tr (Fr.u (by unfold sRd; omega))
