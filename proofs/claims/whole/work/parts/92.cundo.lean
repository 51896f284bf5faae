/-! THE CLASS: undo -/
theorem unW_lo {w f : Nat → Int} {i : Nat} (h : i < 17) : unW w f i = f i := if_pos h
theorem unW_hi {w f : Nat → Int} {i : Nat} (h : 17 ≤ i) : unW w f i = w i := if_neg (by omega)
def sUn : Nat → Nat → Nat → Prop := fun k a x => sRd 0 k a x ∨ (k = 2 ∧ a = 0 ∧ x < 2)
theorem k_undo0 (d : Nat) (g : zG) (h : g 2 0 0 = 0) : EvM (d + 1) 245 [.inr (11, 0)] g = some (some (.inl 0), g) := by
  rw [en245]
  simp only [e245_0, e245_1, e245_4, e245_5, e245_8, e245_11, zU_app, zbI_some, zbV_some, Int.reduceToNat, Int.reduceLE, Int.reduceLT, Int.reduceEq, Nat.reduceEqDiff, and_self, and_true, true_and, and_false, false_and, if_true, if_false, ne_eq, not_true_eq_false, not_false_eq_true, reduceCtorEq, eq_self, true_or, or_true, or_false, false_or, zbR_some]
  rw [en246]
  simp only [e246_0, e246_1, e246_4, e246_7, e246_8, e246_11, e246_14, e246_15, e246_18, e246_20, e246_23, e246_24, e246_25, e246_26, e246_29, e246_30, e246_33, e246_34, e246_37, e246_38, e246_41, e246_42, e246_45, e246_46, e246_49, e246_50, e246_53, e246_54, e246_55, e246_58, e246_59, e246_62, e246_63, e246_66, e246_67, e246_68, e246_71, e246_72, e246_75, e246_76, e246_79, e246_80, e246_83, e246_84, e246_85, e246_88, e246_89, e246_90, e246_92, e246_95, e246_98, e246_99, e246_100, e246_103, e246_104, e246_105, e246_108, e246_109, zU_app, zbI_some, zbV_some, Int.reduceToNat, Int.reduceLE, Int.reduceLT, Int.reduceEq, Nat.reduceEqDiff, and_self, and_true, true_and, and_false, false_and, if_true, if_false, ne_eq, not_true_eq_false, not_false_eq_true, reduceCtorEq, eq_self, true_or, or_true, or_false, false_or, zbR_some, h]
set_option maxHeartbeats 1000000 in
theorem k_undo1 {w : Nat → Int} {ls : List (List (Int × Int) × List (Int × Int))} (hV : VOk w ls) (d n t : Nat) (f : Nat → Nat → Int) (g : zG) (h : RdAt g 0 w ls) (hH : HrAt g (n + 1) t f w ls) : ∃ g' t', EvM (d + 3) 245 [.inr (11, 0)] g = some (some (.inl 1), g') ∧ VOk (unW w (f n)) ls ∧ RdAt g' 0 (unW w (f n)) ls ∧ HrAt g' n t' f (unW w (f n)) ls ∧ Fr sUn g g' := by
  obtain ⟨s1, s2, s3, s4, s5⟩ := hH
  obtain ⟨q1, q2, ⟨p, p1, p2, p3, p4⟩, q4, q5⟩ := s5 n (by omega)
  have es : sl t (n + 1) n = t := by unfold sl; omega
  have en : nxR (n + 1) f w n = w := by unfold nxR; rw [if_pos rfl]
  rw [es] at q1 q2 p2 p3
  rw [en] at p4 q4
  obtain ⟨h0, h1, h2, h3, h4, h5⟩ := h
  have h17 := hV.1.1.2.2.2.1
  have hX := hV.1.2.1
  have h6 := hV.1.1.2.2.2.2.2.2.2
  have hp8 : p < 8 := by omega
  have hgl := q5.1.1.2.2.2.2.2.2.1 p hp8
  rw [unW_lo (by omega)] at hgl
  have e1 := k_ccopy (d + 1) 0 (2 + t) g (by omega)
  let g1 := cpC g 0 (2 + t)
  have n1 : ∀ k a x, ¬ (k = 1 ∧ a = 0) → g1 k a x = g k a x := fun k a x hk => cpC_ne hk
  have k2 := k_fill d 0 p (w 17) (f n (9 + p)) g1 (by rw [n1 8 0 0 (by omega)]; exact h0.1) h17.2
  rw [if_pos ⟨⟨by omega, p1⟩, hgl⟩, Int.toNat_natCast] at k2
  let g2 := zU g1 40 0 p (f n (9 + p))
  let g3 := zU g2 0 0 0 (f n 6)
  obtain ⟨t', ht', htE⟩ : ∃ t' : Nat, t' < 10 ∧ t' = (t + 9) % 10 := ⟨(t + 9) % 10, Nat.mod_lt _ (by decide), rfl⟩
  have z1 : zwr ((t : Int) - 1) = (t : Int) - 1 := zwr_id (by omega) (by omega)
  have hf : ∀ d g, EvM d 151 [.inl ((t : Int) - 1), .inl 10] g = some (some (.inl (t' : Int)), g) := fun d g => by
    rw [j_floorMod d g z1 (by omega)]
    congr 4
    omega
  have z2 : zwr (((n + 1 : Nat) : Int) - 1) = (n : Int) := by rw [zwr_id (by omega) (by omega)]; omega
  have r1 : g1 2 0 1 = (t : Int) := by rw [n1 _ _ _ (by omega)]; exact s2
  have r2 : g1 2 0 0 = ((n + 1 : Nat) : Int) := by rw [n1 _ _ _ (by omega)]; exact s1
  have r3 : g1 25 0 t = (p : Int) := by rw [n1 _ _ _ (by omega)]; exact p2
  have r4 : g1 26 0 t = f n (9 + p) := by rw [n1 _ _ _ (by omega)]; exact p3
  have r5 : g1 27 0 t = f n 6 := by rw [n1 _ _ _ (by omega)]; exact q2
  have hi : ∀ i, 17 ≤ i → unW w (f n) i = w i := fun i h => unW_hi h
  let g5 := zU (zU g3 2 0 1 (t' : Int)) 2 0 0 (n : Int)
  have F1 : Fr (fun k a x => (k = 1 ∧ a = 0) ∨ (k = 40 ∧ a = 0 ∧ x = p) ∨ (k = 0 ∧ a = 0 ∧ x = 0) ∨ (k = 2 ∧ a = 0 ∧ x < 2)) g g1 := fun k a x hk => n1 k a x (by omega)
  have F5 : Fr (fun k a x => (k = 1 ∧ a = 0) ∨ (k = 40 ∧ a = 0 ∧ x = p) ∨ (k = 0 ∧ a = 0 ∧ x = 0) ∨ (k = 2 ∧ a = 0 ∧ x < 2)) g g5 := (((F1.tr (Fr.u (by omega))).tr (Fr.u (by omega))).tr (Fr.u (by omega))).tr (Fr.u (by omega))
  refine ⟨g5, t', ?_, q5, ⟨⟨?_, ?_⟩, ?_, ?_, ?_, ?_, ⟨?_, ?_⟩⟩, ⟨rfl, rfl, ht', by omega, ?_⟩, F5.up (fun k a x q => by unfold sUn sRd; omega)⟩
  · rw [en245]
    simp only [e245_0, e245_1, e245_4, e245_5, e245_8, e245_11, zU_app, zbI_some, zbV_some, Int.reduceToNat, Int.reduceLE, Int.reduceLT, Int.reduceEq, Nat.reduceEqDiff, and_self, and_true, true_and, and_false, false_and, if_true, if_false, ne_eq, not_true_eq_false, not_false_eq_true, reduceCtorEq, eq_self, true_or, or_true, or_false, false_or, zbR_some]
    rw [en246]
    simp (disch := omega) only [e246_0, e246_1, e246_4, e246_7, e246_8, e246_11, e246_14, e246_15, e246_18, e246_20, e246_23, e246_24, e246_25, e246_26, e246_29, e246_30, e246_33, e246_34, e246_37, e246_38, e246_41, e246_42, e246_45, e246_46, e246_49, e246_50, e246_53, e246_54, e246_55, e246_58, e246_59, e246_62, e246_63, e246_66, e246_67, e246_68, e246_71, e246_72, e246_75, e246_76, e246_79, e246_80, e246_83, e246_84, e246_85, e246_88, e246_89, e246_90, e246_92, e246_95, e246_98, e246_99, e246_100, e246_103, e246_104, e246_105, e246_108, e246_109, zU_app, zbI_some, zbV_some, Int.reduceToNat, Int.reduceLE, Int.reduceLT, Int.reduceEq, Nat.reduceEqDiff, and_self, and_true, true_and, and_false, false_and, if_true, if_false, ne_eq, not_true_eq_false, not_false_eq_true, reduceCtorEq, eq_self, true_or, or_true, or_false, false_or, zbR_some, zwr_id, if_pos, if_neg, s1, s2, Int.toNat_natCast, e1, show cpC g 0 (2 + t) = g1 from rfl, r1, r3, r4]
    simp (disch := omega) only [e246_0, e246_1, e246_4, e246_7, e246_8, e246_11, e246_14, e246_15, e246_18, e246_20, e246_23, e246_24, e246_25, e246_26, e246_29, e246_30, e246_33, e246_34, e246_37, e246_38, e246_41, e246_42, e246_45, e246_46, e246_49, e246_50, e246_53, e246_54, e246_55, e246_58, e246_59, e246_62, e246_63, e246_66, e246_67, e246_68, e246_71, e246_72, e246_75, e246_76, e246_79, e246_80, e246_83, e246_84, e246_85, e246_88, e246_89, e246_90, e246_92, e246_95, e246_98, e246_99, e246_100, e246_103, e246_104, e246_105, e246_108, e246_109, zU_app, zbI_some, zbV_some, Int.reduceToNat, Int.reduceLE, Int.reduceLT, Int.reduceEq, Nat.reduceEqDiff, and_self, and_true, true_and, and_false, false_and, if_true, if_false, ne_eq, not_true_eq_false, not_false_eq_true, reduceCtorEq, eq_self, true_or, or_true, or_false, false_or, zbR_some, zwr_id, if_pos, if_neg, Int.toNat_natCast, k2, show zU g1 40 0 p (f n (9 + p)) = g2 from rfl, show g2 2 0 1 = (t : Int) from r1, show g2 27 0 t = f n 6 from r5, show g2 2 0 0 = ((n + 1 : Nat) : Int) from r2, z1, hf]
    rw [show ((n + 1 : Nat) : Int) - 1 = (n : Int) by omega]
  · rw [hi 17 (by omega)]
    show g1 8 0 0 = _
    rw [n1 _ _ _ (by omega)]; exact h0.1
  · intro p' hp'
    rw [hi 17 (by omega)] at hp'
    obtain ⟨t0, t1, t2, t3⟩ := h0.2 p' hp'
    rw [hi (20 + p') (by omega), unW_lo (i := 9 + p') (by omega), hi (28 + p') (by omega)]
    refine ⟨?_, ?_, ?_, ?_⟩
    · show g1 39 0 p' = _
      rw [n1 _ _ _ (by omega)]; exact t0
    · show g2 40 0 p' = _
      by_cases z : p' = p
      · subst z; exact zU_eq _ _ _ _ _
      · show zU g1 40 0 p (f n (9 + p)) 40 0 p' = _
        rw [zU_ne (by omega), n1 _ _ _ (by omega), t1]
        exact (p4 p' (by omega) z).symm
    · show g1 41 0 p' = _
      rw [n1 _ _ _ (by omega)]; exact t2
    · show g1 42 0 _ = _
      rw [n1 _ _ _ (by omega)]; exact t3
  · exact (h1.on (fun k x q => F5 k 0 x (by omega))).cg hX (hi 18 (by omega)) (fun i q1 q2 => hi i (by omega))
  · exact h2.on (fun k x q => F5 k 0 x (by omega))
  · rw [hi 19 (by omega), F5 5 0 5 (by omega)]; exact h3
  · obtain ⟨c0, c1, c2, c3, c4, c5, c6, c7⟩ := q1
    have rd : ∀ x, x < 8 → g5 1 0 x = g 1 (2 + t) x := fun x hx => cpC_at hx
    unfold CoAt
    rw [unW_lo (by decide), unW_lo (by decide), unW_lo (by decide), unW_lo (by decide), unW_lo (by decide), unW_lo (by decide), unW_lo (by decide), unW_lo (by decide), rd 0 (by decide), rd 1 (by decide), rd 2 (by decide), rd 3 (by decide), rd 4 (by decide), rd 5 (by decide), rd 6 (by decide), rd 7 (by decide)]
    exact ⟨c0, c1, c2, c3, c4, c5, c6, c7⟩
  · rw [unW_lo (by decide)]; rfl
  · intro i hi'
    rw [unW_lo (by decide)] at hi'
    rw [hi _ (by omega), hi _ (by omega), hi _ (by omega), hi _ (by omega), F5 20 0 _ (by omega), F5 21 0 _ (by omega), F5 22 0 _ (by omega), F5 23 0 _ (by omega)]
    exact h5.2 i (by omega)
  · intro q hq
    have es' : sl t' n q = sl t (n + 1) q := by unfold sl; omega
    have hlt := sl_lt t (n + 1) q
    obtain ⟨a1, a2, ⟨p0, b1, b2, b3, b4⟩, a4, a5⟩ := s5 q (by omega)
    have en' : ∀ i, i < 17 → nxR n f (unW w (f n)) q i = nxR (n + 1) f w q i := by
      intro i hi'
      unfold nxR
      rw [if_neg (show ¬ q + 1 = n + 1 by omega)]
      by_cases z : q + 1 = n
      · rw [if_pos z, unW_lo hi', z]
      · rw [if_neg z]
    rw [es', en' 6 (by decide)]
    refine ⟨a1.on (fun x => F5 1 _ x (by omega)), by rw [F5 27 0 _ (by omega)]; exact a2, ⟨p0, by rw [hi 17 (by omega)]; exact b1, by rw [F5 25 0 _ (by omega)]; exact b2, by rw [F5 26 0 _ (by omega)]; exact b3, fun p' y1 y2 => by rw [en' _ (by omega)]; exact b4 p' y1 y2⟩, a4, ?_⟩
    have ee : unW (unW w (f n)) (f q) = unW w (f q) := by
      funext x
      unfold unW
      split <;> rfl
    rw [ee]; exact a5
