/-! THE CLASS: the layout of a seating -/
def LyAt (g : zG) (w : Nat → Int) (n k : Nat) : Prop := ∀ i, i < k → g 35 0 i = (lyS w i).1 ∧ ∀ p, p < n → g 36 0 (6 * i + p) = odW w p (i + 1) (lyS w i).2.2
theorem k_putSeat (d s : Nat) (v : Int) (g : zG) (h : s < 60) : EvM d 233 [.inr (7, 0), .inl (s : Int), .inl v] g = some (none, zU g 35 0 s v) := by
  rw [en233]
  simp (disch := omega) only [e233_0, e233_1, e233_4, e233_5, e233_7, e233_10, e233_11, e233_14, e233_15, e233_16, e233_17, zU_app, zbI_some, zbV_some, Int.reduceToNat, Int.reduceLE, Int.reduceLT, Int.reduceEq, Nat.reduceEqDiff, and_self, and_true, true_and, and_false, false_and, if_true, if_false, ne_eq, not_true_eq_false, not_false_eq_true, reduceCtorEq, eq_self, true_or, or_true, or_false, false_or, zbR_some, zwr_id, if_pos, if_neg, Int.toNat_natCast]
theorem k_putOdds (d s p : Nat) (v : Int) (g : zG) (h : s < 60) (hp : p < 6) : EvM d 234 [.inr (7, 0), .inl (s : Int), .inl (p : Int), .inl v] g = some (none, zU g 36 0 (6 * s + p) v) := by
  rw [en234]
  have z1 : zwr ((s : Int) * 6) = (s : Int) * 6 := zwr_id (by omega) (by omega)
  have z2 : zwr ((s : Int) * 6 + (p : Int)) = (s : Int) * 6 + (p : Int) := zwr_id (by omega) (by omega)
  have z3 : ((s : Int) * 6 + (p : Int)).toNat = 6 * s + p := by omega
  simp only [e234_0, e234_1, e234_4, e234_5, e234_7, e234_10, e234_11, e234_14, e234_15, e234_17, e234_20, e234_21, e234_24, e234_25, e234_27, e234_28, e234_29, e234_30, e234_31, e234_32, zU_app, zbI_some, zbV_some, Int.reduceToNat, Int.reduceLE, Int.reduceLT, Int.reduceEq, Nat.reduceEqDiff, and_self, and_true, true_and, and_false, false_and, if_true, if_false, ne_eq, not_true_eq_false, not_false_eq_true, reduceCtorEq, eq_self, true_or, or_true, or_false, false_or, zbR_some, z1, z2, z3]
  rw [if_neg (by omega), if_neg (by omega), if_neg (by omega), if_neg (by omega), if_pos (by omega)]
set_option maxHeartbeats 1000000 in
theorem k_lyI {w : Nat → Int} {ls : List (List (Int × Int) × List (Int × Int))} (hX : RuX w) (hW : LwAt w ls) (hO : LsOk ls) (d n k : Nat) (hk : k < 60) (hw : w 17 = (n : Int)) (hn : n ≤ 6) (s wy t run v : Int) (hr : ask ls → run = (rnW w (k + 1) : Int)) : ∀ (m p : Nat) (g : zG), p + m = n → Cx g 0 w ls → HeAt g (k + 1) s wy t → ∃ g', Ev (d + 5) 232 63 [some (.inr (10, 0)), some (.inr (5, 0)), some (.inr (7, 0)), some (.inl v), some (.inl run), some (.inl ((k + 1 : Nat) : Int)), some (.inl (maW w (k + 1) : Int)), some (.inl (p : Int))] [] g = Ev (d + 5) 232 105 [some (.inr (10, 0)), some (.inr (5, 0)), some (.inr (7, 0)), some (.inl v), some (.inl run), some (.inl ((k + 1 : Nat) : Int)), some (.inl (maW w (k + 1) : Int)), some (.inl (n : Int))] [] g' ∧ Fr (fun q a x => (q = 36 ∧ a = 0 ∧ 6 * k + p ≤ x ∧ x < 6 * k + 6) ∨ sLw 0 q a x) g g' ∧ ∀ q, p ≤ q → q < n → g' 36 0 (6 * k + q) = odW w q (k + 1) t := by
  intro m
  induction m with
  | zero =>
    intro p g hp hC hH
    have hp : p = n := by omega
    subst hp
    refine ⟨g, ?_, Fr.rf, fun q h1 h2 => by omega⟩
    rw [e232_63]
    simp (disch := omega) only [e232_0, e232_1, e232_4, e232_7, e232_8, e232_10, e232_11, e232_15, e232_16, e232_19, e232_20, e232_23, e232_25, e232_28, e232_30, e232_32, e232_35, e232_36, e232_39, e232_41, e232_42, e232_43, e232_45, e232_46, e232_48, e232_49, e232_50, e232_51, e232_54, e232_57, e232_60, e232_61, e232_65, e232_66, e232_69, e232_72, e232_75, e232_76, e232_78, e232_79, e232_80, e232_82, e232_83, e232_85, e232_86, e232_89, e232_91, e232_93, e232_96, e232_99, e232_102, e232_106, e232_109, e232_110, e232_113, e232_115, e232_116, e232_119, e232_122, e232_125, e232_128, e232_131, zU_app, zbI_some, zbV_some, Int.reduceToNat, Int.reduceLE, Int.reduceLT, Int.reduceEq, Nat.reduceEqDiff, and_self, and_true, true_and, and_false, false_and, if_true, if_false, ne_eq, not_true_eq_false, not_false_eq_true, reduceCtorEq, eq_self, true_or, or_true, or_false, false_or, zbR_some, zwr_id, if_pos, if_neg, hC.1.1, hw]
  | succ m ih =>
    intro p g hp hC hH
    obtain ⟨g1, e1, f1⟩ := k_rodds d 0 12 p (k + 1) t run g hC.1 hC.2.2.1 hW hO hX (by omega) (by omega) hC.2.2.2 hH.1 hH.2.2.2 hr
    have f1' : Fr sTt g g1 := f1.up (fun k a x q => lw_tt q)
    have z1 : zwr (((k + 1 : Nat) : Int) - 1) = (k : Int) := by rw [zwr_id (by omega) (by omega)]; omega
    have z2 : zwr ((p : Int) + 1) = ((p + 1 : Nat) : Int) := by rw [zwr_id (by omega) (by omega)]; omega
    have e2 := k_putOdds (d + 4) k p (odW w p (k + 1) t) g1 hk (by omega)
    have fu : Fr sTt g1 (zU g1 36 0 (6 * k + p) (odW w p (k + 1) t)) := Fr.u (by unfold sTt; omega)
    obtain ⟨g3, e3, f3, h3⟩ := ih (p + 1) (zU g1 36 0 (6 * k + p) (odW w p (k + 1) t)) (by omega) ((hC.fr f1').fr fu) ((hH.fr f1).th 36 0 _ _ (by decide))
    refine ⟨g3, ?_, ((f1.up (fun q a x h => Or.inr h)).tr (Fr.u (Or.inl (by omega)))).tr (f3.up (fun q a x h => by
      rcases h with h | h
      · left; omega
      · exact Or.inr h)), fun q h1 h2 => ?_⟩
    · rw [← e3, e232_63]
      simp only [e232_0, e232_1, e232_4, e232_7, e232_8, e232_10, e232_11, e232_15, e232_16, e232_19, e232_20, e232_23, e232_25, e232_28, e232_30, e232_32, e232_35, e232_36, e232_39, e232_41, e232_42, e232_43, e232_45, e232_46, e232_48, e232_49, e232_50, e232_51, e232_54, e232_57, e232_60, e232_61, e232_65, e232_66, e232_69, e232_72, e232_75, e232_76, e232_78, e232_79, e232_80, e232_82, e232_83, e232_85, e232_86, e232_89, e232_91, e232_93, e232_96, e232_99, e232_102, e232_106, e232_109, e232_110, e232_113, e232_115, e232_116, e232_119, e232_122, e232_125, e232_128, e232_131, zU_app, zbI_some, zbV_some, Int.reduceToNat, Int.reduceLE, Int.reduceLT, Int.reduceEq, Nat.reduceEqDiff, and_self, and_true, true_and, and_false, false_and, if_true, if_false, ne_eq, not_true_eq_false, not_false_eq_true, reduceCtorEq, eq_self, true_or, or_true, or_false, false_or, zbR_some, hC.1.1, hw, z1, z2, e1, e2]
      rw [if_neg (by omega)]
    · by_cases e : q = p
      · subst e
        rw [f3 36 0 _ (by unfold sLw sSk; omega), zU_eq]
      · exact h3 q (by omega) h2
set_option maxHeartbeats 1000000 in
theorem k_lyL {w : Nat → Int} {ls : List (List (Int × Int) × List (Int × Int))} (hX : RuX w) (hP : PeOk w) (hW : LwAt w ls) (hO : LsOk ls) (d n v : Nat) (hv : v ≤ 60) (hw : w 17 = (n : Int)) (hn : n ≤ 6) : ∀ (m k : Nat) (run : Int) (u6 u7 : Option zV) (g : zG), k + m = v → Cx g 0 w ls → HeAt g (k + 1) (lyS w k).1 (lyS w k).2.1 (lyS w k).2.2 → LyAt g w n k → (ask ls → run = (rnW w k : Int)) → (0 ≤ run ∧ run ≤ k) → ∃ g', Ev (d + 5) 232 13 [some (.inr (10, 0)), some (.inr (5, 0)), some (.inr (7, 0)), some (.inl (v : Int)), some (.inl run), some (.inl ((k + 1 : Nat) : Int)), u6, u7] [] g = some (none, g') ∧ Fr sTt g g' ∧ LyAt g' w n v := by
  intro m
  induction m with
  | zero =>
    intro k run u6 u7 g hk hC hH hL hr hb
    have hk : k = v := by omega
    subst hk
    refine ⟨g, ?_, Fr.rf, hL⟩
    rw [e232_13]
    simp (disch := omega) only [e232_0, e232_1, e232_4, e232_7, e232_8, e232_10, e232_11, e232_15, e232_16, e232_19, e232_20, e232_23, e232_25, e232_28, e232_30, e232_32, e232_35, e232_36, e232_39, e232_41, e232_42, e232_43, e232_45, e232_46, e232_48, e232_49, e232_50, e232_51, e232_54, e232_57, e232_60, e232_61, e232_65, e232_66, e232_69, e232_72, e232_75, e232_76, e232_78, e232_79, e232_80, e232_82, e232_83, e232_85, e232_86, e232_89, e232_91, e232_93, e232_96, e232_99, e232_102, e232_106, e232_109, e232_110, e232_113, e232_115, e232_116, e232_119, e232_122, e232_125, e232_128, e232_131, zU_app, zbI_some, zbV_some, Int.reduceToNat, Int.reduceLE, Int.reduceLT, Int.reduceEq, Nat.reduceEqDiff, and_self, and_true, true_and, and_false, false_and, if_true, if_false, ne_eq, not_true_eq_false, not_false_eq_true, reduceCtorEq, eq_self, true_or, or_true, or_false, false_or, zbR_some, zwr_id, if_pos, if_neg]
  | succ m ih =>
    intro k run u6 u7 g hk hC hH hL hr hb
    have ho := ly_ok (w := w) hP.1 k (by omega)
    have hm := k_mask (d + 3) (k + 1) 0 g hC.2.1 hX (by omega)
    let r' : Int := if maW w (k + 1) = 0 then 0 else run + 1
    have hr' : 0 ≤ r' ∧ r' ≤ ((k + 1 : Nat) : Int) := by show 0 ≤ (if maW w (k + 1) = 0 then 0 else run + 1) ∧ (if maW w (k + 1) = 0 then 0 else run + 1) ≤ ((k + 1 : Nat) : Int); split <;> omega
    have hask' : ask ls → r' = (rnW w (k + 1) : Int) := by
      intro ha
      show (if maW w (k + 1) = 0 then 0 else run + 1) = _
      rw [rnW, hr ha]
      split <;> rfl
    have z1 : zwr (((k + 1 : Nat) : Int) - 1) = (k : Int) := by rw [zwr_id (by omega) (by omega)]; omega
    have e1 := k_putSeat (d + 4) k (lyS w k).1 g (by omega)
    have f1 : Fr sTt g (zU g 35 0 k (lyS w k).1) := Fr.u (by unfold sTt; omega)
    have start : Ev (d + 5) 232 13 [some (.inr (10, 0)), some (.inr (5, 0)), some (.inr (7, 0)), some (.inl (v : Int)), some (.inl run), some (.inl ((k + 1 : Nat) : Int)), u6, u7] [] g = Ev (d + 5) 232 63 [some (.inr (10, 0)), some (.inr (5, 0)), some (.inr (7, 0)), some (.inl (v : Int)), some (.inl r'), some (.inl ((k + 1 : Nat) : Int)), some (.inl (maW w (k + 1) : Int)), some (.inl 0)] [] (zU g 35 0 k (lyS w k).1) := by
      rw [e232_13]
      simp only [e232_0, e232_1, e232_4, e232_7, e232_8, e232_10, e232_11, e232_15, e232_16, e232_19, e232_20, e232_23, e232_25, e232_28, e232_30, e232_32, e232_35, e232_36, e232_39, e232_41, e232_42, e232_43, e232_45, e232_46, e232_48, e232_49, e232_50, e232_51, e232_54, e232_57, e232_60, e232_61, e232_65, e232_66, e232_69, e232_72, e232_75, e232_76, e232_78, e232_79, e232_80, e232_82, e232_83, e232_85, e232_86, e232_89, e232_91, e232_93, e232_96, e232_99, e232_102, e232_106, e232_109, e232_110, e232_113, e232_115, e232_116, e232_119, e232_122, e232_125, e232_128, e232_131, zU_app, zbI_some, zbV_some, Int.reduceToNat, Int.reduceLE, Int.reduceLT, Int.reduceEq, Nat.reduceEqDiff, and_self, and_true, true_and, and_false, false_and, if_true, if_false, ne_eq, not_true_eq_false, not_false_eq_true, reduceCtorEq, eq_self, true_or, or_true, or_false, false_or, zbR_some, hm, z1, hH.2.1, e1]
      show _ = Ev _ _ _ [_, _, _, _, some (.inl (if maW w (k + 1) = 0 then 0 else run + 1)), _, _, _] _ _
      rw [if_neg (by omega)]
      by_cases z : maW w (k + 1) = 0
      · rw [if_neg (by omega), if_pos z]
      · rw [if_pos (by omega), if_neg z, zwr_id (by omega) (by omega)]
    obtain ⟨g2, e2, f2, h2⟩ := k_lyI hX hW hO d n k (by omega) hw hn (lyS w k).1 (lyS w k).2.1 (lyS w k).2.2 r' v hask' n 0 (zU g 35 0 k (lyS w k).1) (by omega) (hC.fr f1) (hH.th 35 0 _ _ (by decide))
    have f2' : Fr sTt (zU g 35 0 k (lyS w k).1) g2 := f2.up (fun q a x h => by
      rcases h with h | h
      · unfold sTt; omega
      · exact lw_tt h)
    have hH2 : HeAt g2 (k + 1) (lyS w k).1 (lyS w k).2.1 (lyS w k).2.2 := by
      obtain ⟨q1, q2, q3, q4⟩ := hH.th 35 0 k (lyS w k).1 (by decide)
      refine ⟨?_, ?_, ?_, ?_⟩
      · rw [f2 1 12 0 (by unfold sLw sSk; omega)]; exact q1
      · rw [f2 1 12 1 (by unfold sLw sSk; omega)]; exact q2
      · rw [f2 1 12 2 (by unfold sLw sSk; omega)]; exact q3
      · rw [f2 1 12 3 (by unfold sLw sSk; omega)]; exact q4
    have c2 := (hC.fr f1).fr f2'
    obtain ⟨g3, e3, h3, f3⟩ := k_hereOn (d + 2) 0 (k + 1) (lyS w k).1 (lyS w k).2.1 (lyS w k).2.2 g2 c2 hX ⟨hP.1, hP.2.1⟩ hH2 ho
    have f3' : Fr sTt g2 g3 := f3.up (fun k a i q => Or.inl q)
    rw [show nxN (k + 1) = k + 1 + 1 from if_neg (by omega)] at h3
    have hL3 : LyAt g3 w n (k + 1) := by
      intro i hi
      by_cases e : i = k
      · subst e
        refine ⟨?_, fun p hp => ?_⟩
        · rw [f3 35 0 _ (by omega), f2 35 0 _ (by unfold sLw sSk; omega), zU_eq]
        · rw [f3 36 0 _ (by omega)]
          exact h2 p (by omega) hp
      · obtain ⟨q1, q2⟩ := hL i (by omega)
        refine ⟨?_, fun p hp => ?_⟩
        · rw [f3 35 0 _ (by omega), f2 35 0 _ (by unfold sLw sSk; omega), zU_ne (by omega)]
          exact q1
        · rw [f3 36 0 _ (by omega), f2 36 0 _ (by unfold sLw sSk; omega), zU_ne (by omega)]
          exact q2 p hp
    obtain ⟨g4, e4, f4, h4⟩ := ih (k + 1) r' (some (.inl (maW w (k + 1) : Int))) (some (.inl (n : Int))) g3 (by omega) (c2.fr f3') h3 hL3 hask' hr'
    refine ⟨g4, ?_, ((f1.tr f2').tr f3').tr f4, h4⟩
    rw [start, show (0 : Int) = ((0 : Nat) : Int) from rfl, e2, ← e4]
    have z2 : zwr (((k + 1 : Nat) : Int) + 1) = ((k + 1 + 1 : Nat) : Int) := by rw [zwr_id (by omega) (by omega)]; omega
    simp only [e232_0, e232_1, e232_4, e232_7, e232_8, e232_10, e232_11, e232_15, e232_16, e232_19, e232_20, e232_23, e232_25, e232_28, e232_30, e232_32, e232_35, e232_36, e232_39, e232_41, e232_42, e232_43, e232_45, e232_46, e232_48, e232_49, e232_50, e232_51, e232_54, e232_57, e232_60, e232_61, e232_65, e232_66, e232_69, e232_72, e232_75, e232_76, e232_78, e232_79, e232_80, e232_82, e232_83, e232_85, e232_86, e232_89, e232_91, e232_93, e232_96, e232_99, e232_102, e232_105, e232_106, e232_109, e232_110, e232_113, e232_115, e232_116, e232_119, e232_122, e232_125, e232_128, e232_131, zU_app, zbI_some, zbV_some, Int.reduceToNat, Int.reduceLE, Int.reduceLT, Int.reduceEq, Nat.reduceEqDiff, and_self, and_true, true_and, and_false, false_and, if_true, if_false, ne_eq, not_true_eq_false, not_false_eq_true, reduceCtorEq, eq_self, true_or, or_true, or_false, false_or, zbR_some, c2.1.1, e3, z2]
theorem k_layOut {w : Nat → Int} {ls : List (List (Int × Int) × List (Int × Int))} (hX : RuX w) (hP : PeOk w) (hW : LwAt w ls) (hO : LsOk ls) (d n v : Nat) (hv : v ≤ 60) (hw : w 17 = (n : Int)) (hn : n ≤ 6) (g : zG) (hC : Cx g 0 w ls) : ∃ g', EvM (d + 5) 232 [.inr (10, 0), .inr (5, 0), .inr (7, 0), .inl (v : Int)] g = some (none, g') ∧ Fr sTt g g' ∧ LyAt g' w n v := by
  let g2 := zU (zU (zU (zU g 1 12 0 1) 1 12 2 1) 1 12 3 0) 1 12 1 0
  have f2 : Fr sTt g g2 := (((Fr.u (Or.inl ⟨rfl, rfl⟩)).tr (Fr.u (Or.inl ⟨rfl, rfl⟩))).tr (Fr.u (Or.inl ⟨rfl, rfl⟩))).tr (Fr.u (Or.inl ⟨rfl, rfl⟩))
  obtain ⟨g3, e3, f3, h3⟩ := k_lyL hX hP hW hO d n v hv hw hn v 0 0 none none g2 (by omega) (hC.fr f2) ⟨rfl, rfl, rfl, rfl⟩ (fun i hi => by omega) (fun _ => rfl) (by omega)
  refine ⟨g3, ?_, f2.tr f3, h3⟩
  rw [en232]
  simp only [e232_0, e232_1, e232_4, e232_7, e232_8, e232_10, e232_11, e232_15, e232_16, e232_19, e232_20, e232_23, e232_25, e232_28, e232_30, e232_32, e232_35, e232_36, e232_39, e232_41, e232_42, e232_43, e232_45, e232_46, e232_48, e232_49, e232_50, e232_51, e232_54, e232_57, e232_60, e232_61, e232_65, e232_66, e232_69, e232_72, e232_75, e232_76, e232_78, e232_79, e232_80, e232_82, e232_83, e232_85, e232_86, e232_89, e232_91, e232_93, e232_96, e232_99, e232_102, e232_106, e232_109, e232_110, e232_113, e232_115, e232_116, e232_119, e232_122, e232_125, e232_128, e232_131, zU_app, zbI_some, zbV_some, Int.reduceToNat, Int.reduceLE, Int.reduceLT, Int.reduceEq, Nat.reduceEqDiff, and_self, and_true, true_and, and_false, false_and, if_true, if_false, ne_eq, not_true_eq_false, not_false_eq_true, reduceCtorEq, eq_self, true_or, or_true, or_false, false_or, zbR_some, k_goToStart]
  exact e3
