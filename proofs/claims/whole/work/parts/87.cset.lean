/-! THE CLASS: state, person, rule, set, change -/
def sMu : Nat → Nat → Nat → Prop := fun k a x => sRd 0 k a x ∨ (k = 2 ∧ a = 0 ∧ x = 0)
/-- what a change that may be has done -/
def OpAt (g g' : zG) (ls : List (List (Int × Int) × List (Int × Int))) : Option (Nat → Int) → Prop
  | none => g' = g
  | some w' => RdAt g' 0 w' ls ∧ g' 2 0 0 = 0 ∧ Fr sMu g g'
theorem k_forget (d : Nat) (g : zG) : EvM d 14 [.inr (2, 0)] g = some (none, zU g 2 0 0 0) := by
  rw [en14]
  simp only [e14_0, e14_1, e14_2, e14_5]
theorem RdAt.hi {g : zG} {j : Nat} {w : Nat → Int} {ls : List (List (Int × Int) × List (Int × Int))} (h : RdAt g j w ls) (i : Nat) (x : Int) : RdAt (zU g 2 0 i x) j w ls := h.on (fun k a y q => zU_ne (by unfold sRd at q; omega))
theorem BkAt.cg {g : zG} {j : Nat} {w w' : Nat → Int} (h : BkAt g j w) (h6 : w' 6 = w 6) (h7 : w 6 ≤ 100) (hw : ∀ i, 80 ≤ i → i < 480 → w' i = w i) : BkAt g j w' := by
  refine ⟨by rw [h6]; exact h.1, fun i hi => ?_⟩
  rw [h6] at hi
  rw [hw _ (by omega) (by omega), hw _ (by omega) (by omega), hw _ (by omega) (by omega), hw _ (by omega) (by omega)]
  exact h.2 i hi
theorem RuAt.cg {g : zG} {j : Nat} {w w' : Nat → Int} (h : RuAt g j w) (hX : RuX w) (h18 : w' 18 = w 18) (hr : ∀ i, 40 ≤ i → i < 68 → w' i = w i) : RuAt g j w' := by
  have hn : nR w' = nR w := by unfold nR; rw [h18]
  have h7 := hX.nr.2
  obtain ⟨a0, a1, a2, a3, a4⟩ := h
  unfold RuAt
  rw [hn, h18]
  refine ⟨a0, fun r hr' => ?_, ?_, ?_, ?_⟩
  · rw [hr _ (by omega) (by omega), hr _ (by omega) (by omega), hr _ (by omega) (by omega)]
    exact a1 r hr'
  · rw [a2]; congr 1; exact mk_cong (fun r q => by unfold onB; rw [hr _ (by omega) (by omega)])
  · rw [a3]; congr 1; exact mk_cong (fun r q => by unfold tuB; rw [hr _ (by omega) (by omega)])
  · rw [a4]; congr 1; exact mk_cong (fun r q => by unfold tuB; rw [hr _ (by omega) (by omega)])
theorem k_state {w : Nat → Int} {ls : List (List (Int × Int) × List (Int × Int))} (hV : VOk w ls) (d : Nat) (v : Int) (g : zG) (h : RdAt g 0 w ls) : ∃ g', EvM (d + 1) 13 [.inr (11, 0), .inl v] g = some (some (.inl (w 7)), g') ∧ RdAt g' 0 (uW w 7 v) ls ∧ g' 2 0 0 = 0 ∧ Fr sMu g g' := by
  obtain ⟨h0, h1, h2, h3, ⟨c0, c1, c2, c3, c4, c5, c6, c7⟩, h5⟩ := h
  have hX := hV.1.2.1
  have h7 := hV.1.1.2.2.2.2.2.2.2
  have h8 := hV.1.1.2.2.2.1.2
  have ne : ∀ i, i ≠ 7 → uW w 7 v i = w i := fun i q => uW_ne q
  refine ⟨zU (zU g 1 0 6 v) 2 0 0 0, ?_, ⟨?_, ?_, ?_, ?_, ?_, ?_⟩, rfl, ?_⟩
  · rw [en13]
    simp only [e13_0, e13_1, e13_4, e13_7, e13_10, e13_11, e13_12, e13_15, e13_18, e13_19, e13_22, e13_23, e13_26, e13_29, e13_30, zU_app, zbI_some, zbV_some, Int.reduceToNat, Int.reduceLE, Int.reduceLT, Int.reduceEq, Nat.reduceEqDiff, and_self, and_true, true_and, and_false, false_and, if_true, if_false, ne_eq, not_true_eq_false, not_false_eq_true, reduceCtorEq, eq_self, true_or, or_true, or_false, false_or, zbR_some, c6, k_forget]
  · exact (h0.cg (ne 17 (by omega)) (fun i hi => ne i (by omega)) h8)
  · exact (h1.cg hX (ne 18 (by omega)) (fun i q1 q2 => ne i (by omega)))
  · exact h2
  · rw [ne 19 (by omega)]; exact h3
  · exact ⟨c0, c1, c2, c3, c4, c5, rfl, c7⟩
  · exact h5.cg (ne 6 (by omega)) h7.2 (fun i q1 q2 => ne i (by omega))
  · exact (Fr.u (Or.inl (by unfold sRd; omega))).tr (Fr.u (Or.inr ⟨rfl, rfl, rfl⟩))
theorem k_person {w : Nat → Int} {ls : List (List (Int × Int) × List (Int × Int))} (hV : VOk w ls) (d : Nat) (x : Int) (g : zG) (h : RdAt g 0 w ls) : ∃ g', EvM (d + 1) 17 [.inr (11, 0), .inl x] g = some (some (.inl (isW (aPerson w x) (w 17) (-1))), g') ∧ OpAt g g' ls (aPerson w x) := by
  obtain ⟨h0, h1, h2, h3, h4, h5⟩ := h
  have hX := hV.1.2.1
  have h7 := hV.1.1.2.2.2.2.2.2.2
  have h17 := hV.1.1.2.2.2.1
  unfold aPerson
  by_cases hx : (0 ≤ x ∧ x ≤ 99) ∧ w 17 ≠ 8
  · rw [if_pos hx]
    obtain ⟨n, hn⟩ : ∃ n : Nat, w 17 = (n : Int) := ⟨(w 17).toNat, by omega⟩
    have hn8 : n < 8 := by omega
    rw [hn, Int.toNat_natCast]
    have ne : ∀ i, i ≠ 20 + n → i ≠ 9 + n → i ≠ 28 + n → i ≠ 17 → uW (uW (uW (uW w (20 + n) x) (9 + n) 0) (28 + n) (n : Int)) 17 ((n : Int) + 1) i = w i := fun i q1 q2 q3 q4 => by rw [uW_ne q4, uW_ne q3, uW_ne q2, uW_ne q1]
    have hg : zU g 2 0 0 0 8 0 0 = (n : Int) := by rw [zU_ne (by omega), h0.1, hn]
    refine ⟨zU (zU (zU (zU (zU (zU g 2 0 0 0) 39 0 n x) 40 0 n 0) 41 0 n n) 42 0 n n) 8 0 0 ((n : Int) + 1), ?_, ⟨⟨?_, ?_⟩, ?_, ?_, ?_, ?_, ?_⟩, ?_, ?_⟩
    · rw [en17]
      simp (disch := omega) only [e17_0, e17_1, e17_4, e17_5, e17_7, e17_10, e17_11, e17_14, e17_17, e17_20, e17_22, e17_25, e17_26, e17_27, e17_28, e17_31, e17_34, e17_35, e17_38, e17_41, e17_42, e17_45, zU_app, zbI_some, zbV_some, Int.reduceToNat, Int.reduceLE, Int.reduceLT, Int.reduceEq, Nat.reduceEqDiff, and_self, and_true, true_and, and_false, false_and, if_true, if_false, ne_eq, not_true_eq_false, not_false_eq_true, reduceCtorEq, eq_self, true_or, or_true, or_false, false_or, zbR_some, zwr_id, if_pos, if_neg, h0.1, hn, k_forget, k_join _ 0 n x _ hg hn8]
      rfl
    · rw [uW_eq]; rfl
    · intro p hp
      rw [uW_eq] at hp
      by_cases q : p = n
      · subst q
        rw [show uW (uW (uW (uW w (20 + p) x) (9 + p) 0) (28 + p) (p : Int)) 17 ((p : Int) + 1) (20 + p) = x by rw [uW_ne (by omega), uW_ne (by omega), uW_ne (by omega), uW_eq]]
        rw [show uW (uW (uW (uW w (20 + p) x) (9 + p) 0) (28 + p) (p : Int)) 17 ((p : Int) + 1) (9 + p) = 0 by rw [uW_ne (by omega), uW_ne (by omega), uW_eq]]
        rw [show uW (uW (uW (uW w (20 + p) x) (9 + p) 0) (28 + p) (p : Int)) 17 ((p : Int) + 1) (28 + p) = (p : Int) by rw [uW_ne (by omega), uW_eq]]
        rw [Int.toNat_natCast]
        refine ⟨?_, ?_, ?_, ?_⟩ <;> simp [zU_app]
      · rw [ne (20 + p) (by omega) (by omega) (by omega) (by omega), ne (9 + p) (by omega) (by omega) (by omega) (by omega), ne (28 + p) (by omega) (by omega) (by omega) (by omega)]
        obtain ⟨t0, t1, t2, t3⟩ := h0.2 p (by omega)
        have hs := ((hV.1.1.2.2.2.2.1 (by omega)).2.2.1 p (by omega))
        have hs' : ¬ (w (28 + p)).toNat = n := by omega
        refine ⟨?_, ?_, ?_, ?_⟩
        · simp [zU_app, q, t0]
        · simp [zU_app, q, t1]
        · simp [zU_app, q, t2]
        · simp [zU_app, hs', t3]
    · exact h1.cg hX (ne 18 (by omega) (by omega) (by omega) (by omega)) (fun i q1 q2 => ne i (by omega) (by omega) (by omega) (by omega))
    · exact h2
    · rw [ne 19 (by omega) (by omega) (by omega) (by omega)]; exact h3
    · exact CoAt.cg (g := g) h4 (fun i q1 q2 => ne i (by omega) (by omega) (by omega) (by omega))
    · exact BkAt.cg (g := g) h5 (ne 6 (by omega) (by omega) (by omega) (by omega)) h7.2 (fun i q1 q2 => ne i (by omega) (by omega) (by omega) (by omega))
    · rfl
    · exact (((((Fr.u (Or.inr ⟨rfl, rfl, rfl⟩)).tr (Fr.u (Or.inl (by unfold sRd; omega)))).tr (Fr.u (Or.inl (by unfold sRd; omega)))).tr (Fr.u (Or.inl (by unfold sRd; omega)))).tr (Fr.u (Or.inl (by unfold sRd; omega)))).tr (Fr.u (Or.inl (by unfold sRd; omega)))
  · rw [if_neg hx]
    refine ⟨g, ?_, rfl⟩
    rw [en17]
    simp only [e17_0, e17_1, e17_4, e17_5, e17_7, e17_10, e17_11, e17_14, e17_17, e17_20, e17_22, e17_25, e17_26, e17_27, e17_28, e17_31, e17_34, e17_35, e17_38, e17_41, e17_42, e17_45, zU_app, zbI_some, zbV_some, Int.reduceToNat, Int.reduceLE, Int.reduceLT, Int.reduceEq, Nat.reduceEqDiff, and_self, and_true, true_and, and_false, false_and, if_true, if_false, ne_eq, not_true_eq_false, not_false_eq_true, reduceCtorEq, eq_self, true_or, or_true, or_false, false_or, zbR_some, h0.1]
    by_cases q1 : x < 0
    · rw [if_pos q1]; rfl
    · by_cases q2 : 99 < x
      · rw [if_neg q1, if_pos q2]; rfl
      · rw [if_neg q1, if_neg q2, if_neg (by omega)]; rfl
theorem k_rule {w : Nat → Int} {ls : List (List (Int × Int) × List (Int × Int))} (hV : VOk w ls) (d : Nat) (so nu tu : Int) (g : zG) (h : RdAt g 0 w ls) : (cR so nu tu ∧ w 18 ≠ 6 ∧ ∃ g', EvM (d + 1) 21 [.inr (11, 0), .inl so, .inl nu, .inl tu] g = some (some (.inl (w 18)), g') ∧ RdAt g' 0 (wT w so nu tu) ls ∧ g' 2 0 0 = 0 ∧ Fr sMu g g') ∨ (¬ (cR so nu tu ∧ w 18 ≠ 6) ∧ EvM (d + 1) 21 [.inr (11, 0), .inl so, .inl nu, .inl tu] g = some (some (.inl (-1)), g)) := by
  obtain ⟨r, e0, hr⟩ := k_canBeRule d so nu tu g
  have hX := hV.1.2.1
  have h6 := hV.1.1.2.1
  have h7 := hV.1.1.2.2.2.2.2.2.2
  have h17 := hV.1.1.2.2.2.1
  rcases hr with ⟨rfl, hr⟩ | ⟨rfl, hr⟩
  · by_cases h18 : w 18 = 6
    · right
      refine ⟨fun q => q.2 h18, ?_⟩
      rw [en21]
      simp only [e21_0, e21_1, e21_2, e21_3, e21_6, e21_9, e21_10, e21_13, e21_16, e21_19, e21_21, e21_24, e21_25, e21_26, e21_27, e21_30, e21_33, e21_34, e21_37, e21_40, e21_41, e21_42, e21_43, e21_46, zU_app, zbI_some, zbV_some, Int.reduceToNat, Int.reduceLE, Int.reduceLT, Int.reduceEq, Nat.reduceEqDiff, and_self, and_true, true_and, and_false, false_and, if_true, if_false, ne_eq, not_true_eq_false, not_false_eq_true, reduceCtorEq, eq_self, true_or, or_true, or_false, false_or, zbR_some, e0, h.2.1.1]
      rw [if_neg (by omega)]
    · left
      refine ⟨hr, h18, ?_⟩
      obtain ⟨g1, e1, a1, f1⟩ := k_append d 0 so nu tu (zU g 2 0 0 0) (w := w) (h.hi 0 0).2.1 hX h6 hr
      have hn := hX.nr
      have ne : ∀ i, i < 40 ∨ 72 ≤ i → i ≠ 18 → wT w so nu tu i = w i := fun i q1 q2 => wT_ne (by omega) q2
      obtain ⟨h0, -, h2, h3, h4, h5⟩ := h.hi 0 0
      refine ⟨g1, ?_, ⟨?_, a1, ?_, ?_, ?_, ?_⟩, ?_, ?_⟩
      · rw [en21]
        simp only [e21_0, e21_1, e21_2, e21_3, e21_6, e21_9, e21_10, e21_13, e21_16, e21_19, e21_21, e21_24, e21_25, e21_26, e21_27, e21_30, e21_33, e21_34, e21_37, e21_40, e21_41, e21_42, e21_43, e21_46, zU_app, zbI_some, zbV_some, Int.reduceToNat, Int.reduceLE, Int.reduceLT, Int.reduceEq, Nat.reduceEqDiff, and_self, and_true, true_and, and_false, false_and, if_true, if_false, ne_eq, not_true_eq_false, not_false_eq_true, reduceCtorEq, eq_self, true_or, or_true, or_false, false_or, zbR_some, e0, h.2.1.1, k_forget, e1]
        rw [if_pos (by omega)]
      · exact (h0.on (fun k x q => f1 k 0 x (by unfold sRu; omega))).cg (ne 17 (by omega) (by omega)) (fun i hi => ne i (by omega) (by omega)) h17.2
      · exact h2.on (fun k x q => f1 k 0 x (by unfold sRu; omega))
      · rw [f1 5 0 5 (by unfold sRu; omega), ne 19 (by omega) (by omega)]; exact h3
      · exact (h4.on (fun x => f1 1 0 x (by unfold sRu; omega))).cg (fun i q1 q2 => ne i (by omega) (by omega))
      · exact (h5.on (fun k x q => f1 k 0 x (by unfold sRu; omega))).cg (ne 6 (by omega) (by omega)) h7.2 (fun i q1 q2 => ne i (by omega) (by omega))
      · rw [f1 2 0 0 (by unfold sRu; omega)]; rfl
      · exact (Fr.u (Or.inr ⟨rfl, rfl, rfl⟩)).tr (f1.up (fun k a x q => Or.inl (by unfold sRu at q; unfold sRd; omega)))
  · right
    refine ⟨fun q => hr q.1, ?_⟩
    rw [en21]
    simp only [e21_0, e21_1, e21_2, e21_3, e21_6, e21_9, e21_10, e21_13, e21_16, e21_19, e21_21, e21_24, e21_25, e21_26, e21_27, e21_30, e21_33, e21_34, e21_37, e21_40, e21_41, e21_42, e21_43, e21_46, zU_app, zbI_some, zbV_some, Int.reduceToNat, Int.reduceLE, Int.reduceLT, Int.reduceEq, Nat.reduceEqDiff, and_self, and_true, true_and, and_false, false_and, if_true, if_false, ne_eq, not_true_eq_false, not_false_eq_true, reduceCtorEq, eq_self, true_or, or_true, or_false, false_or, zbR_some, e0]
theorem k_change {w : Nat → Int} {ls : List (List (Int × Int) × List (Int × Int))} (hV : VOk w ls) (d : Nat) (a b : Int) (g : zG) (h : RdAt g 0 w ls) : ∃ g', EvM (d + 3) 42 [.inr (11, 0), .inl a, .inl b] g = some (some (.inl (isW (aChange w a b) 1 0)), g') ∧ OpAt g g' ls (aChange w a b) := by
  have hX := hV.1.2.1
  have h7 := hV.1.1.2.2.2.2.2.2.2
  have h17 := hV.1.1.2.2.2.1
  have ka := fun d => k_isThere d 0 a (w 17) g h.1.1 h17.2
  have kb := fun d => k_isThere d 0 b (w 17) g h.1.1 h17.2
  unfold aChange
  by_cases hc : (0 ≤ a ∧ a < w 17) ∧ (0 ≤ b ∧ b < w 17) ∧ a ≠ b
  · rw [if_pos hc]
    obtain ⟨a, rfl⟩ : ∃ q : Nat, a = (q : Int) := ⟨a.toNat, by omega⟩
    obtain ⟨b, rfl⟩ : ∃ q : Nat, b = (q : Int) := ⟨b.toNat, by omega⟩
    rw [Int.toNat_natCast, Int.toNat_natCast]
    have hab : a ≠ b := by omega
    have hP := hV.1.1.2.2.2.2.1 (by omega)
    obtain ⟨h0, h1, h2, h3, h4, h5⟩ := h
    have sa := hP.2.2.1 a (by omega)
    have sb := hP.2.2.1 b (by omega)
    obtain ⟨x, hxa⟩ : ∃ x : Nat, w (28 + a) = (x : Int) := ⟨(w (28 + a)).toNat, by omega⟩
    obtain ⟨y, hyb⟩ : ∃ y : Nat, w (28 + b) = (y : Int) := ⟨(w (28 + b)).toNat, by omega⟩
    have hxy : x ≠ y := fun q => hab (hP.2.2.2.1 a b (by omega) (by omega) (by rw [hxa, hyb, q]))
    have e1 := k_swap d 0 a b x y (w 17) g h0.1 h17.2 (by omega) (by omega) (by rw [(h0.2 a (by omega)).2.2.1, hxa]) (by rw [(h0.2 b (by omega)).2.2.1, hyb]) (by omega) (by omega)
    rw [zb_t hc.1] at ka
    rw [zb_t hc.2.1] at kb
    have ne : ∀ i, i ≠ 28 + a → i ≠ 28 + b → uW (uW w (28 + a) (w (28 + b))) (28 + b) (w (28 + a)) i = w i := fun i q1 q2 => by rw [uW_ne q2, uW_ne q1]
    have e17 := ne 17 (by omega) (by omega)
    refine ⟨zU (zU (zU (zU (zU g 41 0 a y) 41 0 b x) 42 0 x b) 42 0 y a) 2 0 0 0, ?_, ⟨⟨?_, ?_⟩, ?_, ?_, ?_, ?_, ?_⟩, ?_, ?_⟩
    · rw [en42]
      simp only [e42_0, e42_1, e42_2, e42_5, e42_6, e42_9, e42_12, e42_13, e42_16, e42_19, e42_20, e42_23, e42_26, e42_27, e42_30, e42_33, e42_34, e42_35, e42_36, e42_39, e42_42, e42_43, e42_44, e42_47, e42_48, e42_51, e42_54, e42_55, zU_app, zbI_some, zbV_some, Int.reduceToNat, Int.reduceLE, Int.reduceLT, Int.reduceEq, Nat.reduceEqDiff, and_self, and_true, true_and, and_false, false_and, if_true, if_false, ne_eq, not_true_eq_false, not_false_eq_true, reduceCtorEq, eq_self, true_or, or_true, or_false, false_or, zbR_some, ka, kb, e1, k_forget]
      rw [if_neg (by omega)]
      rfl
    · rw [e17]; exact h0.1
    · intro p hp
      rw [e17] at hp
      obtain ⟨t0, t1, t2, t3⟩ := h0.2 p hp
      rw [ne (20 + p) (by omega) (by omega), ne (9 + p) (by omega) (by omega)]
      by_cases z1 : p = a
      · subst z1
        rw [show uW (uW w (28 + p) (w (28 + b))) (28 + b) (w (28 + p)) (28 + p) = (y : Int) by rw [uW_ne (by omega), uW_eq, hyb], Int.toNat_natCast]
        refine ⟨t0, t1, ?_, ?_⟩
        · simp [zU_app, hab]
        · simp [zU_app]
      · by_cases z2 : p = b
        · subst z2
          rw [show uW (uW w (28 + a) (w (28 + p))) (28 + p) (w (28 + a)) (28 + p) = (x : Int) by rw [uW_eq, hxa], Int.toNat_natCast]
          refine ⟨t0, t1, ?_, ?_⟩
          · simp [zU_app]
          · simp [zU_app, hxy]
        · rw [ne (28 + p) (by omega) (by omega)]
          have sp := hP.2.2.1 p (by omega)
          have q1 : ¬ (w (28 + p)).toNat = x := fun q => z1 (hP.2.2.2.1 p a (by omega) (by omega) (by omega))
          have q2 : ¬ (w (28 + p)).toNat = y := fun q => z2 (hP.2.2.2.1 p b (by omega) (by omega) (by omega))
          refine ⟨t0, t1, ?_, ?_⟩
          · simp [zU_app, z1, z2, t2]
          · simp [zU_app, q1, q2, t3]
    · exact RuAt.cg (g := g) h1 hX (ne 18 (by omega) (by omega)) (fun i q1 q2 => ne i (by omega) (by omega))
    · exact h2
    · rw [ne 19 (by omega) (by omega)]; exact h3
    · exact CoAt.cg (g := g) h4 (fun i q1 q2 => ne i (by omega) (by omega))
    · exact BkAt.cg (g := g) h5 (ne 6 (by omega) (by omega)) h7.2 (fun i q1 q2 => ne i (by omega) (by omega))
    · rfl
    · exact ((((Fr.u (Or.inl (by unfold sRd; omega))).tr (Fr.u (Or.inl (by unfold sRd; omega)))).tr (Fr.u (Or.inl (by unfold sRd; omega)))).tr (Fr.u (Or.inl (by unfold sRd; omega)))).tr (Fr.u (Or.inr ⟨rfl, rfl, rfl⟩))
  · rw [if_neg hc]
    refine ⟨g, ?_, rfl⟩
    rw [en42]
    simp only [e42_0, e42_1, e42_2, e42_5, e42_6, e42_9, e42_12, e42_13, e42_16, e42_19, e42_20, e42_23, e42_26, e42_27, e42_30, e42_33, e42_34, e42_35, e42_36, e42_39, e42_42, e42_43, e42_44, e42_47, e42_48, e42_51, e42_54, e42_55, zU_app, zbI_some, zbV_some, Int.reduceToNat, Int.reduceLE, Int.reduceLT, Int.reduceEq, Nat.reduceEqDiff, and_self, and_true, true_and, and_false, false_and, if_true, if_false, ne_eq, not_true_eq_false, not_false_eq_true, reduceCtorEq, eq_self, true_or, or_true, or_false, false_or, zbR_some, ka, kb]
    by_cases e : a = b
    · rw [if_pos e]; rfl
    · rw [if_neg e]
      by_cases h1 : 0 ≤ a ∧ a < w 17
      · rw [zb_t h1, zb_f (fun q => hc ⟨h1, q, e⟩), if_neg (by decide), if_neg (by decide)]; rfl
      · rw [zb_f h1, if_pos rfl]; rfl
