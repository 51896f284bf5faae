/-! THE CLASS: what can be undone -/
def sl (t n q : Nat) : Nat := (t + 11 + q - n) % 10
def nxR (n : Nat) (f : Nat → Nat → Int) (w : Nat → Int) (q : Nat) : Nat → Int := if q + 1 = n then w else f (q + 1)
def HrAt (g : zG) (n t : Nat) (f : Nat → Nat → Int) (w : Nat → Int) (ls : List (List (Int × Int) × List (Int × Int))) : Prop := g 2 0 0 = (n : Int) ∧ g 2 0 1 = (t : Int) ∧ t < 10 ∧ n ≤ 10 ∧ ∀ q, q < n → CoAt g (2 + sl t n q) (f q) ∧ g 27 0 (sl t n q) = f q 6 ∧ (∃ p : Nat, (p : Int) < w 17 ∧ g 25 0 (sl t n q) = (p : Int) ∧ g 26 0 (sl t n q) = f q (9 + p) ∧ ∀ p', p' < 8 → p' ≠ p → f q (9 + p') = nxR n f w q (9 + p')) ∧ f q 6 ≤ nxR n f w q 6 ∧ VOk (unW w (f q)) ls
def sHs : Nat → Nat → Nat → Prop := fun k a x => (k = 2 ∧ a = 0 ∧ x < 2) ∨ (k = 1 ∧ 2 ≤ a ∧ a < 12) ∨ ((k = 25 ∨ k = 26 ∨ k = 27) ∧ a = 0)
theorem sl_lt (t n q : Nat) : sl t n q < 10 := Nat.mod_lt _ (by decide)
theorem HrAt.on {g g' : zG} {n t : Nat} {f : Nat → Nat → Int} {w : Nat → Int} {ls : List (List (Int × Int) × List (Int × Int))} (h : HrAt g n t f w ls) (e : ∀ k a x, sHs k a x → g' k a x = g k a x) : HrAt g' n t f w ls := by
  obtain ⟨h1, h2, h3, h4, h5⟩ := h
  refine ⟨by rw [e 2 0 0 (by unfold sHs; omega)]; exact h1, by rw [e 2 0 1 (by unfold sHs; omega)]; exact h2, h3, h4, fun q hq => ?_⟩
  obtain ⟨q1, q2, q3, q4⟩ := h5 q hq
  have := sl_lt t n q
  refine ⟨q1.on (fun x => e 1 _ x (by unfold sHs; omega)), by rw [e 27 0 _ (by unfold sHs; omega)]; exact q2, ?_, q4⟩
  rw [e 25 0 _ (by unfold sHs; omega), e 26 0 _ (by unfold sHs; omega)]
  exact q3
theorem HrAt.no {g : zG} {t : Nat} {f : Nat → Nat → Int} {w : Nat → Int} {ls : List (List (Int × Int) × List (Int × Int))} (h0 : g 2 0 0 = 0) (h1 : g 2 0 1 = (t : Int)) (ht : t < 10) : HrAt g 0 t f w ls := ⟨h0, h1, ht, by omega, fun q hq => by omega⟩
set_option maxHeartbeats 1000000 in
theorem k_keep {w : Nat → Int} (d n t p : Nat) (g : zG) (hn : g 2 0 0 = (n : Int)) (ht : g 2 0 1 = (t : Int)) (h10 : t < 10 ∧ n ≤ 10) (hT : TbAt g 0 w) (hp : (p : Int) < w 17) (h8 : w 17 ≤ 8) : ∃ g', EvM (d + 2) 150 [.inr (2, 0), .inr (5, 0), .inl (p : Int)] g = some (none, g') ∧ g' 2 0 0 = (hiN n : Int) ∧ g' 2 0 1 = (((t + 1) % 10 : Nat) : Int) ∧ (∀ x, x < 8 → g' 1 (2 + (t + 1) % 10) x = g 1 0 x) ∧ g' 25 0 ((t + 1) % 10) = (p : Int) ∧ g' 26 0 ((t + 1) % 10) = w (9 + p) ∧ g' 27 0 ((t + 1) % 10) = g 0 0 0 ∧ Fr (fun k a x => (k = 2 ∧ a = 0 ∧ x < 2) ∨ (k = 1 ∧ a = 2 + (t + 1) % 10) ∨ ((k = 25 ∨ k = 26 ∨ k = 27) ∧ a = 0 ∧ x = (t + 1) % 10)) g g' := by
  have ht' : (t + 1) % 10 < 10 := Nat.mod_lt _ (by decide)
  have z1 : zwr ((t : Int) + 1) = (t : Int) + 1 := zwr_id (by omega) (by omega)
  have hf : ∀ d, EvM d 151 [.inl ((t : Int) + 1), .inl 10] g = some (some (.inl (((t + 1) % 10 : Nat) : Int)), g) := fun d => by
    rw [j_floorMod d g z1 (by omega)]
    congr 4
  generalize hT' : (t + 1) % 10 = T at hf ht' ⊢
  let g1 := zU g 2 0 1 (T : Int)
  have e2 := k_ccopy (d + 1) (2 + T) 0 g1 (by omega)
  let g2 := cpC g1 (2 + T) 0
  have T2 : TbAt g2 0 w := hT.on (fun k x q => by
    show cpC g1 (2 + T) 0 k 0 x = _
    rw [cpC_ne (by omega)]
    exact zU_ne (by omega))
  let g3 := zU g2 25 0 T (p : Int)
  have T3 : TbAt g3 0 w := T2
  have k1 := k_glassesOf d 0 p (w 17) g3 T3.1 h8
  rw [if_pos (by omega), Int.toNat_natCast, (T3.2 p hp).2.1] at k1
  let g4 := zU (zU g3 26 0 T (w (9 + p))) 27 0 T (g 0 0 0)
  have r1 : g2 2 0 1 = (T : Int) := by show cpC g1 (2 + T) 0 2 0 1 = _; rw [cpC_ne (by omega)]; rfl
  have r3 : g2 2 0 0 = (n : Int) := by show cpC g1 (2 + T) 0 2 0 0 = _; rw [cpC_ne (by omega)]; exact hn
  have r2 : g2 0 0 0 = g 0 0 0 := by show cpC g1 (2 + T) 0 0 0 0 = _; rw [cpC_ne (by omega)]; rfl
  have r8 : g2 8 0 0 = w 17 := T2.1
  have m1 := j_min (d + 1) 10 ((n : Int) + 1)
  have zn : zwr ((n : Int) + 1) = (n : Int) + 1 := zwr_id (by omega) (by omega)
  have hh : (if (n : Int) + 1 < 10 then (n : Int) + 1 else 10) = (hiN n : Int) := by
    unfold hiN
    by_cases q : n = 10
    · rw [if_pos q, if_neg (by omega)]; rfl
    · rw [if_neg q]
      by_cases q2 : n = 9
      · rw [if_neg (by omega), q2]; rfl
      · rw [if_pos (by omega)]; rfl
  refine ⟨zU g4 2 0 0 (hiN n : Int), ?_, rfl, ?_, ?_, ?_, ?_, ?_, ?_⟩
  · rw [en150]
    simp only [e150_0, e150_1, e150_2, e150_5, e150_6, e150_7, e150_9, e150_12, e150_15, e150_16, e150_19, e150_20, e150_23, e150_24, e150_25, e150_28, e150_31, e150_32, e150_35, e150_36, e150_39, e150_40, e150_41, e150_42, e150_45, e150_46, e150_49, e150_50, e150_53, e150_54, e150_57, e150_58, e150_59, e150_62, e150_63, e150_66, e150_67, e150_70, e150_73, e150_74, e150_75, e150_77, e150_78, e150_81, e150_82, e150_83, e150_86, e150_89, zU_app, zbI_some, zbV_some, Int.reduceToNat, Int.reduceLE, Int.reduceLT, Int.reduceEq, Nat.reduceEqDiff, and_self, and_true, true_and, and_false, false_and, if_true, if_false, ne_eq, not_true_eq_false, not_false_eq_true, reduceCtorEq, eq_self, true_or, or_true, or_false, false_or, zbR_some, ht, z1, hf]
    simp (disch := omega) only [e150_0, e150_1, e150_2, e150_5, e150_6, e150_7, e150_9, e150_12, e150_15, e150_16, e150_19, e150_20, e150_23, e150_24, e150_25, e150_28, e150_31, e150_32, e150_35, e150_36, e150_39, e150_40, e150_41, e150_42, e150_45, e150_46, e150_49, e150_50, e150_53, e150_54, e150_57, e150_58, e150_59, e150_62, e150_63, e150_66, e150_67, e150_70, e150_73, e150_74, e150_75, e150_77, e150_78, e150_81, e150_82, e150_83, e150_86, e150_89, zU_app, zbI_some, zbV_some, Int.reduceToNat, Int.reduceLE, Int.reduceLT, Int.reduceEq, Nat.reduceEqDiff, and_self, and_true, true_and, and_false, false_and, if_true, if_false, ne_eq, not_true_eq_false, not_false_eq_true, reduceCtorEq, eq_self, true_or, or_true, or_false, false_or, zbR_some, zwr_id, if_pos, if_neg, Int.toNat_natCast, show zU g 2 0 1 (T : Int) = g1 from rfl, e2, show cpC g1 (2 + T) 0 = g2 from rfl, r1, r2, r3]
    simp (disch := omega) only [e150_0, e150_1, e150_2, e150_5, e150_6, e150_7, e150_9, e150_12, e150_15, e150_16, e150_19, e150_20, e150_23, e150_24, e150_25, e150_28, e150_31, e150_32, e150_35, e150_36, e150_39, e150_40, e150_41, e150_42, e150_45, e150_46, e150_49, e150_50, e150_53, e150_54, e150_57, e150_58, e150_59, e150_62, e150_63, e150_66, e150_67, e150_70, e150_73, e150_74, e150_75, e150_77, e150_78, e150_81, e150_82, e150_83, e150_86, e150_89, zU_app, zbI_some, zbV_some, Int.reduceToNat, Int.reduceLE, Int.reduceLT, Int.reduceEq, Nat.reduceEqDiff, and_self, and_true, true_and, and_false, false_and, if_true, if_false, ne_eq, not_true_eq_false, not_false_eq_true, reduceCtorEq, eq_self, true_or, or_true, or_false, false_or, zbR_some, zwr_id, if_pos, if_neg, Int.toNat_natCast, show zU g2 25 0 T (p : Int) = g3 from rfl, k1]
    simp (disch := omega) only [e150_0, e150_1, e150_2, e150_5, e150_6, e150_7, e150_9, e150_12, e150_15, e150_16, e150_19, e150_20, e150_23, e150_24, e150_25, e150_28, e150_31, e150_32, e150_35, e150_36, e150_39, e150_40, e150_41, e150_42, e150_45, e150_46, e150_49, e150_50, e150_53, e150_54, e150_57, e150_58, e150_59, e150_62, e150_63, e150_66, e150_67, e150_70, e150_73, e150_74, e150_75, e150_77, e150_78, e150_81, e150_82, e150_83, e150_86, e150_89, zU_app, zbI_some, zbV_some, Int.reduceToNat, Int.reduceLE, Int.reduceLT, Int.reduceEq, Nat.reduceEqDiff, and_self, and_true, true_and, and_false, false_and, if_true, if_false, ne_eq, not_true_eq_false, not_false_eq_true, reduceCtorEq, eq_self, true_or, or_true, or_false, false_or, zbR_some, zwr_id, if_pos, if_neg, Int.toNat_natCast, show g3 2 0 1 = (T : Int) from r1, show g3 0 0 0 = g 0 0 0 from r2, show g3 2 0 0 = (n : Int) from r3, m1, zn, hh]
    try rfl
  · exact r1
  · intro x hx
    show cpC g1 (2 + T) 0 1 (2 + T) x = _
    rw [cpC_at hx]
    exact zU_ne (by omega)
  · simp [g4, g3, zU_app]
  · simp [g4, zU_app]
  · simp [g4, zU_app]
  · have F1 : Fr (fun k a x => (k = 2 ∧ a = 0 ∧ x < 2) ∨ (k = 1 ∧ a = 2 + T) ∨ ((k = 25 ∨ k = 26 ∨ k = 27) ∧ a = 0 ∧ x = T)) g g1 := Fr.u (by omega)
    have F2 : Fr (fun k a x => (k = 2 ∧ a = 0 ∧ x < 2) ∨ (k = 1 ∧ a = 2 + T) ∨ ((k = 25 ∨ k = 26 ∨ k = 27) ∧ a = 0 ∧ x = T)) g1 g2 := fun k a x hk => cpC_ne (by omega)
    exact ((((F1.tr F2).tr (Fr.u (by omega))).tr (Fr.u (by omega))).tr (Fr.u (by omega))).tr (Fr.u (by omega))
theorem paN_gl {w : Nat → Int} (hM : MOk w) (hp : 0 < w 17) {i : Nat} (hi : 9 ≤ i ∧ i < 17) (hne : i ≠ 9 + paW w) : paN w i = w i := by
  have h6 := hM.2.2.2.2.2.2.2.1
  unfold paN
  rw [uW_ne (by omega)]
  split
  · unfold erW
    rw [rsW_ne (by omega) (by omega) (by omega), pgW_ne (by omega) (by omega) (by rw [gmW_ne (by omega), drW_ne (by omega)]; exact h6), gmW_ne hne, drW_ne (by omega)]
  · rw [mvW_ne (by omega), onW_ne (by omega) (by omega), drW_ne (by omega)]
theorem paN_6 {w : Nat → Int} (hM : MOk w) (hp : 0 < w 17) : w 6 ≤ paN w 6 := by
  unfold paN
  rw [uW_ne (by omega)]
  split
  · unfold erW
    rw [rsW_ne (by omega) (by omega) (by omega)]
    have e : gmW (drW w (oaW w)) (paW w) 6 = w 6 := by rw [gmW_ne (by omega), drW_ne (by omega)]
    unfold pgW
    rw [e]
    split
    · rw [uW_eq]; omega
    · rw [e]; omega
  · rw [mvW_ne (by omega), onW_ne (by omega) (by omega), drW_ne (by omega)]
    exact Int.le_refl _
theorem v_play {w : Nat → Int} {ls : List (List (Int × Int) × List (Int × Int))} (h : VOk w ls) (hp : 0 < w 17) : VOk (paN w) ls := by
  have hM := paN_ok h.1.1 hp
  have hl := paN_lik h.1.1 hp
  have e17 := hl.2 17 (by omega)
  exact ⟨⟨hM, h.1.2.1.cg (hl.2 18 (by omega)) (fun i q1 q2 => hl.2 i (by omega)), h.1.2.2.1.cg (fun i hi => hl.2 i (by omega)), h.1.2.2.2⟩, by rw [e17]; omega⟩
/-- one more is kept -/
theorem HrAt.ad {g g' : zG} {n t p : Nat} {f : Nat → Nat → Int} {w : Nat → Int} {ls : List (List (Int × Int) × List (Int × Int))} (hV : VOk w ls) (hp17 : 0 < w 17) (hp : p = paW w) (hpl : (p : Int) < w 17) (h : HrAt g n t f w ls) (k0 : g' 2 0 0 = (hiN n : Int)) (k1 : g' 2 0 1 = (((t + 1) % 10 : Nat) : Int)) (k2 : CoAt g' (2 + (t + 1) % 10) w) (k3 : g' 25 0 ((t + 1) % 10) = (p : Int)) (k4 : g' 26 0 ((t + 1) % 10) = w (9 + p)) (k5 : g' 27 0 ((t + 1) % 10) = w 6) (e : ∀ k a x, ((k = 1 ∧ 2 ≤ a ∧ a < 12 ∧ a ≠ 2 + (t + 1) % 10) ∨ ((k = 25 ∨ k = 26 ∨ k = 27) ∧ a = 0 ∧ x ≠ (t + 1) % 10)) → g' k a x = g k a x) : HrAt g' (hiN n) ((t + 1) % 10) (hiF n f w) (paN w) ls := by
  obtain ⟨h1, h2, h3, h4, h5⟩ := h
  have hl := paN_lik hV.1.1 hp17
  have e17 := hl.2 17 (by omega)
  have hN : hiN n = if n = 10 then 10 else n + 1 := rfl
  refine ⟨k0, k1, Nat.mod_lt _ (by decide), by rw [hN]; split <;> omega, fun q hq => ?_⟩
  have vv : ∀ r : Nat → Int, VOk (unW w r) ls → VOk (unW (paN w) r) ls := fun r hr => hr.cg (fun i hi => by
    unfold unW
    by_cases z : i < 17
    · rw [if_pos z, if_pos z]
    · rw [if_neg z, if_neg z]
      exact hl.2 i (by omega))
  by_cases hz : q + 1 = hiN n
  · have es : sl ((t + 1) % 10) (hiN n) q = (t + 1) % 10 := by unfold sl; omega
    have ef : hiF n f w q = w := by unfold hiF; rw [if_pos hz]
    have en : nxR (hiN n) (hiF n f w) (paN w) q = paN w := by unfold nxR; rw [if_pos hz]
    rw [es, ef, en]
    refine ⟨k2, k5, ⟨p, by rw [e17]; exact hpl, k3, k4, fun p' q1 q2 => (paN_gl hV.1.1 hp17 (by omega) (by omega)).symm⟩, paN_6 hV.1.1 hp17, vv w ?_⟩
    exact hV.cg (fun i hi => by unfold unW; split <;> rfl)
  · have hs : sl ((t + 1) % 10) (hiN n) q ≠ (t + 1) % 10 := by
      have hle : hiN n ≤ 10 := by rw [hN]; split <;> omega
      unfold sl
      omega
    have hlt := sl_lt ((t + 1) % 10) (hiN n) q
    -- which one it was
    obtain ⟨q0, hq0, eq0, es, ef, en⟩ : ∃ q0, q0 < n ∧ (q0 = if n = 10 then q + 1 else q) ∧ sl ((t + 1) % 10) (hiN n) q = sl t n q0 ∧ hiF n f w q = f q0 ∧ nxR (hiN n) (hiF n f w) (paN w) q = nxR n f w q0 := by
      by_cases z : n = 10
      · rw [hN, if_pos z] at hq hz
        refine ⟨q + 1, by omega, by rw [if_pos z], ?_, ?_, ?_⟩
        · unfold sl; rw [hN, if_pos z]; omega
        · unfold hiF; rw [hN, if_pos z, if_neg hz, if_pos z]
        · unfold nxR hiF
          rw [hN, if_pos z, if_neg hz]
          by_cases y : q + 1 + 1 = 10
          · rw [if_pos y, if_pos (by omega)]
          · rw [if_neg y, if_pos z, if_neg (by omega)]
      · rw [hN, if_neg z] at hq hz
        refine ⟨q, by omega, by rw [if_neg z], ?_, ?_, ?_⟩
        · unfold sl; rw [hN, if_neg z]; omega
        · unfold hiF; rw [hN, if_neg z, if_neg hz, if_neg z]
        · unfold nxR hiF
          rw [hN, if_neg z, if_neg hz]
          by_cases y : q + 1 + 1 = n + 1
          · rw [if_pos y, if_pos (by omega)]
          · rw [if_neg y, if_neg z, if_neg (by omega)]
    obtain ⟨q1, q2, ⟨p0, p1, p2, p3, p4⟩, q4, q5⟩ := h5 q0 hq0
    rw [ef, en]
    rw [es] at hs hlt ⊢
    refine ⟨q1.on (fun x => e 1 _ x (by omega)), by rw [e 27 0 _ (by omega)]; exact q2, ⟨p0, by rw [e17]; exact p1, by rw [e 25 0 _ (by omega)]; exact p2, by rw [e 26 0 _ (by omega)]; exact p3, p4⟩, q4, vv _ q5⟩
