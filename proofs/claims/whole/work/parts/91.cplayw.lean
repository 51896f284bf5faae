/-! THE CLASS: play -/
def sPy : Nat → Nat → Nat → Prop := fun k a x => sRd 0 k a x ∨ sHs k a x ∨ sLw 0 k a x
theorem RdAt.lw {g g' : zG} {w : Nat → Int} {ls : List (List (Int × Int) × List (Int × Int))} (h : RdAt g 0 w ls) (hf : Fr (sLw 0) g g') : RdAt g' 0 w ls := h.on (fun k a x q => hf k a x (by unfold sRd at q; unfold sLw sSk; omega))
theorem k_draw' {w : Nat → Int} {ls : List (List (Int × Int) × List (Int × Int))} (hV : VOk w ls) (d : Nat) (g : zG) (h : RdAt g 0 w ls) : EvM d 153 [.inr (1, 0), .inl 1000] g = some (some (.inl (drV (drN (w 7)) 1000)), zU g 1 0 6 (drN (w 7))) ∧ RdAt (zU g 1 0 6 (drN (w 7))) 0 (uW w 7 (drN (w 7))) ls := by
  obtain ⟨h0, h1, h2, h3, ⟨c0, c1, c2, c3, c4, c5, c6, c7⟩, h5⟩ := h
  have hX := hV.1.2.1
  have h7 := hV.1.1.2.2.2.2.2.2.2
  have h8 := hV.1.1.2.2.2.1.2
  have k1 := k_draw d 0 g
  rw [c6] at k1
  refine ⟨k1, ?_, ?_, h2, ?_, ⟨c0, c1, c2, c3, c4, c5, rfl, c7⟩, ?_⟩
  · exact TbAt.cg (g := g) h0 (uW_ne (by omega)) (fun i hi => uW_ne (by omega)) h8
  · exact RuAt.cg (g := g) h1 hX (uW_ne (by omega)) (fun i q1 q2 => uW_ne (by omega))
  · rw [uW_ne (by omega)]; exact h3
  · exact BkAt.cg (g := g) h5 (uW_ne (by omega)) h7.2 (fun i q1 q2 => uW_ne (by omega))
/-- behind the keeping: whether he errs, and what comes of it -/
theorem k_pn2 {w : Nat → Int} {ls : List (List (Int × Int) × List (Int × Int))} (hV : VOk w ls) (hp17 : 0 < w 17) (d nn : Nat) (hnn : w 0 = (nn : Int)) (run : Int) (g : zG) (h : RdAt g 0 w ls) : ∃ g', Ev (d + 5) 138 52 [some (.inr (11, 0)), some (.inl (maW w nn : Int)), some (.inl run), some (.inl (paW w : Int)), some (.inl (oaW w)), none] [] g = some (some (.inl (zb (paB w = true))), g') ∧ RdAt g' 0 (paN w) ls ∧ Fr (sRd 0) g g' := by
  obtain ⟨nw, hnw, ho⟩ := hV.1.cu hp17
  have hnn' : nw = nn := by omega
  subst hnn'
  have hM := hV.1.1
  have hX := hV.1.2.1
  have h17 := hM.2.2.2.1
  have h6 := hM.2.2.2.2.2.2.2
  have hg := hM.2.2.2.2.2.2.1
  have hP := hM.2.2.2.2.1 hp17
  have hN := hM.2.2.2.2.2.1
  obtain ⟨p1, p2, p3⟩ := whoW_spec hP hN.2.1.1 (hN.2.1.2 hp17)
  have p1 : (paW w : Int) < w 17 := p1
  -- the end, when the draw is done
  have fin : ∀ (g1 : zG), RdAt g1 0 (drW w (oaW w)) ls → ∃ g', Ev (d + 5) 138 80 [some (.inr (11, 0)), some (.inl (maW w nw : Int)), some (.inl run), some (.inl (paW w : Int)), some (.inl (oaW w)), none] [.inl (zb (paB w = true))] g1 = some (some (.inl (zb (paB w = true))), g') ∧ RdAt g' 0 (paN w) ls ∧ Fr (sRd 0) g1 g' := by
    intro g1 hr
    have hl := drW_lik (w := w) (by have := hM.2.1; omega) (oaW w)
    have X1 : RuX (drW w (oaW w)) := hX.cg (drW_ne (by omega)) (fun i q1 q2 => drW_ne (by omega))
    have e17 : drW w (oaW w) 17 = w 17 := drW_ne (by omega)
    have e6 : drW w (oaW w) 6 = w 6 := drW_ne (by omega)
    have e0 : drW w (oaW w) 0 = w 0 := drW_ne (by omega)
    have e1 : drW w (oaW w) 1 = w 1 := drW_ne (by omega)
    have e2 : drW w (oaW w) 2 = w 2 := drW_ne (by omega)
    by_cases hb : paB w = true
    · rw [zb_t hb]
      obtain ⟨g2, k2, r2, f2⟩ := k_err X1 (hg.cg (fun i hi => drW_ne (by omega))) (by rw [e17]; exact h17) (by rw [e6]; exact h6) (d + 2) (paW w) (by rw [e17]; exact p1) g1 hr
      refine ⟨g2, ?_, ?_, f2⟩
      · simp only [e138_0, e138_1, e138_4, e138_7, e138_8, e138_11, e138_14, e138_17, e138_20, e138_21, e138_22, e138_25, e138_26, e138_27, e138_30, e138_33, e138_34, e138_35, e138_38, e138_40, e138_41, e138_44, e138_45, e138_48, e138_49, e138_52, e138_54, e138_57, e138_58, e138_61, e138_64, e138_67, e138_70, e138_72, e138_75, e138_76, e138_79, e138_80, e138_82, e138_84, e138_87, e138_88, e138_91, e138_92, e138_95, e138_98, e138_99, e138_102, e138_103, e138_104, e138_107, e138_109, zU_app, zbI_some, zbV_some, Int.reduceToNat, Int.reduceLE, Int.reduceLT, Int.reduceEq, Nat.reduceEqDiff, and_self, and_true, true_and, and_false, false_and, if_true, if_false, ne_eq, not_true_eq_false, not_false_eq_true, reduceCtorEq, eq_self, true_or, or_true, or_false, false_or, zbR_some, k2]
      · rw [e0] at r2
        unfold paN
        rw [if_pos hb]
        exact r2
    · rw [zb_f hb]
      have ma1 : maW w nw = maW (drW w (oaW w)) nw := by rw [hl.ma]
      obtain ⟨g2, k2, r2, f2⟩ := k_say X1 (by rw [e17]; exact ⟨hp17, h17.2⟩) (by rw [e6]; exact h6) (d + 1) (paW w) nw (by rw [e0]; exact hnw) (by rw [e1, e2]; unfold CuOk; rw [e17]; exact ho) g1 hr
      refine ⟨g2, ?_, ?_, f2⟩
      · rw [← ma1] at k2
        simp only [e138_0, e138_1, e138_4, e138_7, e138_8, e138_11, e138_14, e138_17, e138_20, e138_21, e138_22, e138_25, e138_26, e138_27, e138_30, e138_33, e138_34, e138_35, e138_38, e138_40, e138_41, e138_44, e138_45, e138_48, e138_49, e138_52, e138_54, e138_57, e138_58, e138_61, e138_64, e138_67, e138_70, e138_72, e138_75, e138_76, e138_79, e138_80, e138_82, e138_84, e138_87, e138_88, e138_91, e138_92, e138_95, e138_98, e138_99, e138_102, e138_103, e138_104, e138_107, e138_109, zU_app, zbI_some, zbV_some, Int.reduceToNat, Int.reduceLE, Int.reduceLT, Int.reduceEq, Nat.reduceEqDiff, and_self, and_true, true_and, and_false, false_and, if_true, if_false, ne_eq, not_true_eq_false, not_false_eq_true, reduceCtorEq, eq_self, true_or, or_true, or_false, false_or, zbR_some, k2]
      · rw [e0, e1, e2, hl.se, hl.wy, hl.tu] at r2
        unfold paN
        rw [if_neg hb, hnw, Int.toNat_natCast]
        rw [hnw] at r2
        exact r2
  obtain ⟨kd, rd⟩ := k_draw' hV (d + 4) g h
  by_cases hz : 0 < oaW w
  · have ed : drW w (oaW w) = uW w 7 (drN (w 7)) := if_pos hz
    rw [← ed] at rd
    obtain ⟨g2, k2, r2, f2⟩ := fin (zU g 1 0 6 (drN (w 7))) rd
    refine ⟨g2, ?_, r2, (Fr.u (by unfold sRd; omega)).tr f2⟩
    rw [← k2]
    simp only [e138_0, e138_1, e138_4, e138_7, e138_8, e138_11, e138_14, e138_17, e138_20, e138_21, e138_22, e138_25, e138_26, e138_27, e138_30, e138_33, e138_34, e138_35, e138_38, e138_40, e138_41, e138_44, e138_45, e138_48, e138_49, e138_52, e138_54, e138_57, e138_58, e138_61, e138_64, e138_67, e138_70, e138_72, e138_75, e138_76, e138_79, e138_82, e138_84, e138_87, e138_88, e138_91, e138_92, e138_95, e138_98, e138_99, e138_102, e138_103, e138_104, e138_107, e138_109, zU_app, zbI_some, zbV_some, Int.reduceToNat, Int.reduceLE, Int.reduceLT, Int.reduceEq, Nat.reduceEqDiff, and_self, and_true, true_and, and_false, false_and, if_true, if_false, ne_eq, not_true_eq_false, not_false_eq_true, reduceCtorEq, eq_self, true_or, or_true, or_false, false_or, zbR_some, kd]
    rw [if_neg (by omega)]
    have hpb : paB w = decide (drV (drN (w 7)) 1000 < oaW w) := by unfold paB erB; rw [decide_eq_true hz, Bool.true_and]
    by_cases hq : drV (drN (w 7)) 1000 < oaW w
    · rw [if_neg (by omega), zb_t (by rw [hpb]; exact decide_eq_true hq)]
    · rw [if_pos (by omega), zb_f (by rw [hpb]; simp; omega)]
  · have ed : drW w (oaW w) = w := if_neg hz
    obtain ⟨g2, k2, r2, f2⟩ := fin g (by rw [ed]; exact h)
    refine ⟨g2, ?_, r2, f2⟩
    rw [← k2]
    simp only [e138_0, e138_1, e138_4, e138_7, e138_8, e138_11, e138_14, e138_17, e138_20, e138_21, e138_22, e138_25, e138_26, e138_27, e138_30, e138_33, e138_34, e138_35, e138_38, e138_40, e138_41, e138_44, e138_45, e138_48, e138_49, e138_52, e138_54, e138_57, e138_58, e138_61, e138_64, e138_67, e138_70, e138_72, e138_75, e138_76, e138_79, e138_82, e138_84, e138_87, e138_88, e138_91, e138_92, e138_95, e138_98, e138_99, e138_102, e138_103, e138_104, e138_107, e138_109, zU_app, zbI_some, zbV_some, Int.reduceToNat, Int.reduceLE, Int.reduceLT, Int.reduceEq, Nat.reduceEqDiff, and_self, and_true, true_and, and_false, false_and, if_true, if_false, ne_eq, not_true_eq_false, not_false_eq_true, reduceCtorEq, eq_self, true_or, or_true, or_false, false_or, zbR_some]
    have hpb : paB w = false := by unfold paB erB; rw [decide_eq_false hz, Bool.false_and]
    rw [if_pos (by omega), zb_f (by rw [hpb]; decide)]
theorem k_playNumber {w : Nat → Int} {ls : List (List (Int × Int) × List (Int × Int))} (hV : VOk w ls) (hp17 : 0 < w 17) (d nn n t : Nat) (f : Nat → Nat → Int) (hnn : w 0 = (nn : Int)) (run : Int) (hr : ask ls → run = (rnW w nn : Int)) (g : zG) (h : RdAt g 0 w ls) (hH : HrAt g n t f w ls) : ∃ g', EvM (d + 5) 138 [.inr (11, 0), .inl (maW w nn : Int), .inl run] g = some (some (.inl (zb (paB w = true))), g') ∧ RdAt g' 0 (paN w) ls ∧ HrAt g' (hiN n) ((t + 1) % 10) (hiF n f w) (paN w) ls ∧ Fr sPy g g' := by
  have hM := hV.1.1
  have h17 := hM.2.2.2.1
  have hP := hM.2.2.2.2.1 hp17
  have hN := hM.2.2.2.2.2.1
  obtain ⟨p1, p2, p3⟩ := whoW_spec hP hN.2.1.1 (hN.2.1.2 hp17)
  have p1 : (paW w : Int) < w 17 := p1
  have co := h.2.2.2.2.1
  have k1 : EvM (d + 4) 139 [.inr (8, 0), .inl (w 1)] g = some (some (.inl (paW w : Int)), g) := k_sit' hP (d + 3) 0 (w 1) g h.1 hN.2.1.1 (hN.2.1.2 hp17)
  obtain ⟨g1, e1, f1⟩ := k_rodds d 0 0 (paW w) nn (w 3) run g h.1 h.2.2.1 hV.1.2.2.1 hV.1.2.2.2 hV.1.2.1 p1 h17.2 h.2.2.2.1 (by rw [co.1, hnn]) co.2.2.2.1 hr
  have eo : odW w (paW w) nn (w 3) = oaW w := by unfold oaW; rw [hnn, Int.toNat_natCast]
  rw [eo] at e1
  have r1 := h.lw f1
  have H1 : HrAt g1 n t f w ls := hH.on (fun k a x q => f1 k a x (by unfold sHs at q; unfold sLw sSk; omega))
  obtain ⟨g2, e2, q0, q1, q2, q3, q4, q5, f2⟩ := k_keep (d + 2) n t (paW w) g1 H1.1 H1.2.1 ⟨H1.2.2.1, H1.2.2.2.1⟩ r1.1 p1 h17.2
  have ht' : (t + 1) % 10 < 10 := Nat.mod_lt _ (by decide)
  have r2 : RdAt g2 0 w ls := r1.on (fun k a x q => f2 k a x (by unfold sRd at q; omega))
  obtain ⟨g3, e3, r3, f3⟩ := k_pn2 hV hp17 d nn hnn run g2 r2
  obtain ⟨c0, c1, c2, c3, c4, c5, c6, c7⟩ := r1.2.2.2.2.1
  have hK2 : CoAt g2 (2 + (t + 1) % 10) w := by
    unfold CoAt
    rw [q2 0 (by decide), q2 1 (by decide), q2 2 (by decide), q2 3 (by decide), q2 4 (by decide), q2 5 (by decide), q2 6 (by decide), q2 7 (by decide)]
    exact ⟨c0, c1, c2, c3, c4, c5, c6, c7⟩
  refine ⟨g3, ?_, r3, ?_, ?_⟩
  · rw [en138]
    simp only [e138_0, e138_1, e138_4, e138_7, e138_8, e138_11, e138_14, e138_17, e138_20, e138_21, e138_22, e138_25, e138_26, e138_27, e138_30, e138_33, e138_34, e138_35, e138_38, e138_40, e138_41, e138_44, e138_45, e138_48, e138_49, e138_54, e138_57, e138_58, e138_61, e138_64, e138_67, e138_70, e138_72, e138_75, e138_76, e138_79, e138_80, e138_82, e138_84, e138_87, e138_88, e138_91, e138_92, e138_95, e138_98, e138_99, e138_102, e138_103, e138_104, e138_107, e138_109, zU_app, zbI_some, zbV_some, Int.reduceToNat, Int.reduceLE, Int.reduceLT, Int.reduceEq, Nat.reduceEqDiff, and_self, and_true, true_and, and_false, false_and, if_true, if_false, ne_eq, not_true_eq_false, not_false_eq_true, reduceCtorEq, eq_self, true_or, or_true, or_false, false_or, zbR_some, co.2.1, k1, e1, e2]
    exact e3
  · refine HrAt.ad hV hp17 rfl p1 H1 ?_ ?_ ?_ ?_ ?_ ?_ ?_
    · rw [f3 2 0 0 (by unfold sRd; omega)]; exact q0
    · rw [f3 2 0 1 (by unfold sRd; omega)]; exact q1
    · exact hK2.on (fun x => f3 1 _ x (by unfold sRd; omega))
    · rw [f3 25 0 _ (by unfold sRd; omega)]; exact q3
    · rw [f3 26 0 _ (by unfold sRd; omega)]; exact q4
    · rw [f3 27 0 _ (by unfold sRd; omega), q5]; exact r1.2.2.2.2.2.1
    · intro k a x hk
      rw [f3 k a x (by unfold sRd; omega)]
      exact f2 k a x (by omega)
  · refine ((f1.up (fun k a x q => Or.inr (Or.inr q))).tr (f2.up (fun k a x q => Or.inr (Or.inl ?_)))).tr (f3.up (fun k a x q => Or.inl q))
    unfold sHs
    omega
theorem paN_0 {w : Nat → Int} {nn : Nat} (hnn : w 0 = (nn : Int)) : paN w 0 = if paB w then 1 else (nxN nn : Int) := by
  unfold paN
  rw [uW_ne (by omega)]
  by_cases h : paB w = true
  · rw [if_pos h, if_pos h]; rfl
  · rw [if_neg h, if_neg h, hnn, Int.toNat_natCast]; rfl
set_option maxHeartbeats 1000000 in
theorem k_playL {ls : List (List (Int × Int) × List (Int × Int))} (d : Nat) (k : Int) (hk : k ≤ 200) : ∀ (m i : Nat) (w : Nat → Int) (n t : Nat) (f : Nat → Nat → Int) (c run : Int) (u : Option zV) (g : zG), ((i + m : Nat) : Int) = k → VOk w ls → 0 < w 17 → RdAt g 0 w ls → HrAt g n t f w ls → (0 ≤ c ∧ c ≤ i) → (ask ls → run = (rnW w ((w 0).toNat - 1) : Int)) → (0 ≤ run ∧ run ≤ 10000 + i) → ∃ g' t', Ev (d + 6) 132 47 [some (.inr (11, 0)), some (.inl k), some (.inl c), some (.inl run), some (.inl (i : Int)), u] [] g = some (some (.inl (pyS m w n f c).2.2.2), g') ∧ VOk (pyS m w n f c).1 ls ∧ RdAt g' 0 (pyS m w n f c).1 ls ∧ HrAt g' (pyS m w n f c).2.1 t' (pyS m w n f c).2.2.1 (pyS m w n f c).1 ls ∧ Fr sPy g g' := by
  intro m
  induction m with
  | zero =>
    intro i w n t f c run u g hi hV hp h hH hc hr hb
    refine ⟨g, t, ?_, hV, h, hH, Fr.rf⟩
    rw [e132_47]
    simp (disch := omega) only [e132_0, e132_1, e132_2, e132_5, e132_6, e132_9, e132_12, e132_13, e132_16, e132_19, e132_22, e132_25, e132_26, e132_27, e132_28, e132_29, e132_30, e132_33, e132_34, e132_37, e132_40, e132_43, e132_44, e132_45, e132_49, e132_50, e132_53, e132_54, e132_57, e132_60, e132_61, e132_64, e132_67, e132_70, e132_73, e132_75, e132_77, e132_80, e132_81, e132_84, e132_85, e132_86, e132_87, e132_88, e132_89, e132_91, e132_92, e132_95, e132_98, e132_101, e132_102, e132_105, e132_108, e132_111, e132_112, e132_115, e132_116, e132_117, e132_120, e132_123, e132_124, zU_app, zbI_some, zbV_some, Int.reduceToNat, Int.reduceLE, Int.reduceLT, Int.reduceEq, Nat.reduceEqDiff, and_self, and_true, true_and, and_false, false_and, if_true, if_false, ne_eq, not_true_eq_false, not_false_eq_true, reduceCtorEq, eq_self, true_or, or_true, or_false, false_or, zbR_some, zwr_id, if_pos, if_neg]
    rfl
  | succ m ih =>
    intro i w n t f c run u g hi hV hp h hH hc hr hb
    have hN := hV.1.1.2.2.2.2.2.1
    obtain ⟨nn, hnn⟩ : ∃ nn : Nat, w 0 = ((nn + 1 : Nat) : Int) := ⟨(w 0).toNat - 1, by have := hN.1; omega⟩
    have hn9 : nn < 9999 := by have := hN.1; omega
    have hrn : (w 0).toNat - 1 = nn := by omega
    rw [hrn] at hr
    have km := k_mask (d + 4) (nn + 1) 0 g h.2.1 hV.1.2.1 (by omega)
    let r' : Int := if maW w (nn + 1) = 0 then 0 else run + 1
    have hr' : 0 ≤ r' ∧ r' ≤ 10000 + i + 1 := by show 0 ≤ (if maW w (nn + 1) = 0 then 0 else run + 1) ∧ (if maW w (nn + 1) = 0 then 0 else run + 1) ≤ 10000 + (i : Int) + 1; split <;> omega
    have hask : ask ls → r' = (rnW w (nn + 1) : Int) := by
      intro ha
      show (if maW w (nn + 1) = 0 then 0 else run + 1) = _
      rw [rnW, hr ha]
      split <;> rfl
    obtain ⟨g1, e1, r1, H1, f1⟩ := k_playNumber hV hp d (nn + 1) n t f hnn r' hask g h hH
    have hl := paN_lik hV.1.1 hp
    have V1 := v_play hV hp
    have e17 := hl.2 17 (by omega)
    have n0 := paN_0 hnn
    let r2 : Int := if paN w 0 = 1 then 0 else r'
    have hr2 : 0 ≤ r2 ∧ r2 ≤ 10000 + ((i + 1 : Nat) : Int) := by show 0 ≤ (if paN w 0 = 1 then 0 else r') ∧ (if paN w 0 = 1 then 0 else r') ≤ 10000 + ((i + 1 : Nat) : Int); split <;> omega
    have hask2 : ask ls → r2 = (rnW (paN w) ((paN w 0).toNat - 1) : Int) := by
      intro ha
      show (if paN w 0 = 1 then 0 else r') = _
      rw [hl.rn]
      by_cases z : paN w 0 = 1
      · rw [if_pos z, z]; rfl
      · rw [if_neg z, hask ha]
        by_cases y : paB w = true
        · rw [if_pos y] at n0; exact absurd n0 z
        · rw [if_neg y] at n0
          have hx : nxN (nn + 1) = nn + 1 + 1 := by
            unfold nxN at n0 ⊢
            by_cases x9 : nn + 1 = 9999
            · rw [if_pos x9] at n0; exact absurd n0 z
            · rw [if_neg x9]
          rw [hx] at n0
          rw [n0, Int.toNat_natCast]
          rfl
    obtain ⟨g2, t2, e2, v2, rr2, H2, f2⟩ := ih (i + 1) (paN w) (hiN n) ((t + 1) % 10) (hiF n f w) (c + if paB w then 1 else 0) r2 (some (.inl (maW w (nn + 1) : Int))) g1 (by omega) V1 (by rw [e17]; exact hp) r1 H1 (by split <;> omega) hask2 hr2
    refine ⟨g2, t2, ?_, v2, rr2, H2, f1.tr f2⟩
    rw [pyS, ← e2]
    have c0 : g 1 0 0 = ((nn + 1 : Nat) : Int) := by rw [h.2.2.2.2.1.1, hnn]
    have c1 : g1 1 0 0 = paN w 0 := r1.2.2.2.2.1.1
    have step : Ev (d + 6) 132 47 [some (.inr (11, 0)), some (.inl k), some (.inl c), some (.inl run), some (.inl (i : Int)), u] [] g = Ev (d + 6) 132 88 [some (.inr (11, 0)), some (.inl k), some (.inl c), some (.inl r'), some (.inl (i : Int)), some (.inl (maW w (nn + 1) : Int))] [] g := by
      rw [e132_47]
      simp only [e132_0, e132_1, e132_2, e132_5, e132_6, e132_9, e132_12, e132_13, e132_16, e132_19, e132_22, e132_25, e132_26, e132_27, e132_28, e132_29, e132_30, e132_33, e132_34, e132_37, e132_40, e132_43, e132_44, e132_45, e132_49, e132_50, e132_53, e132_54, e132_57, e132_60, e132_61, e132_64, e132_67, e132_70, e132_73, e132_75, e132_77, e132_80, e132_81, e132_84, e132_85, e132_86, e132_87, e132_89, e132_91, e132_92, e132_95, e132_98, e132_101, e132_102, e132_105, e132_108, e132_111, e132_112, e132_115, e132_116, e132_117, e132_120, e132_123, e132_124, zU_app, zbI_some, zbV_some, Int.reduceToNat, Int.reduceLE, Int.reduceLT, Int.reduceEq, Nat.reduceEqDiff, and_self, and_true, true_and, and_false, false_and, if_true, if_false, ne_eq, not_true_eq_false, not_false_eq_true, reduceCtorEq, eq_self, true_or, or_true, or_false, false_or, zbR_some, c0, km]
      show _ = Ev _ _ _ [_, _, _, some (.inl (if maW w (nn + 1) = 0 then 0 else run + 1)), _, _] _ _
      rw [if_neg (by omega)]
      by_cases z : maW w (nn + 1) = 0
      · rw [if_neg (by omega), if_pos z]
      · rw [if_pos (by omega), if_neg z, zwr_id (by omega) (by omega)]
    have last : ∀ c' : Int, Ev (d + 6) 132 101 [some (.inr (11, 0)), some (.inl k), some (.inl c'), some (.inl r'), some (.inl (i : Int)), some (.inl (maW w (nn + 1) : Int))] [] g1 = Ev (d + 6) 132 47 [some (.inr (11, 0)), some (.inl k), some (.inl c'), some (.inl r2), some (.inl ((i + 1 : Nat) : Int)), some (.inl (maW w (nn + 1) : Int))] [] g1 := by
      intro c'
      simp only [e132_0, e132_1, e132_2, e132_5, e132_6, e132_9, e132_12, e132_13, e132_16, e132_19, e132_22, e132_25, e132_26, e132_27, e132_28, e132_29, e132_30, e132_33, e132_34, e132_37, e132_40, e132_43, e132_44, e132_45, e132_49, e132_50, e132_53, e132_54, e132_57, e132_60, e132_61, e132_64, e132_67, e132_70, e132_73, e132_75, e132_77, e132_80, e132_81, e132_84, e132_85, e132_86, e132_87, e132_88, e132_89, e132_91, e132_92, e132_95, e132_98, e132_101, e132_102, e132_105, e132_108, e132_111, e132_112, e132_115, e132_116, e132_117, e132_120, e132_123, e132_124, zU_app, zbI_some, zbV_some, Int.reduceToNat, Int.reduceLE, Int.reduceLT, Int.reduceEq, Nat.reduceEqDiff, and_self, and_true, true_and, and_false, false_and, if_true, if_false, ne_eq, not_true_eq_false, not_false_eq_true, reduceCtorEq, eq_self, true_or, or_true, or_false, false_or, zbR_some, c1]
      show _ = Ev _ _ _ [_, _, _, some (.inl (if paN w 0 = 1 then 0 else r')), _, _] _ _
      rw [zwr_id (by omega) (by omega), show (i : Int) + 1 = ((i + 1 : Nat) : Int) by omega]
      by_cases z : paN w 0 = 1
      · rw [if_neg (by omega), if_pos z]
      · rw [if_pos z, if_neg z]
    rw [step]
    simp only [e132_0, e132_1, e132_2, e132_5, e132_6, e132_9, e132_12, e132_13, e132_16, e132_19, e132_22, e132_25, e132_26, e132_27, e132_28, e132_29, e132_30, e132_33, e132_34, e132_37, e132_40, e132_43, e132_44, e132_45, e132_49, e132_50, e132_53, e132_54, e132_57, e132_60, e132_61, e132_64, e132_67, e132_70, e132_73, e132_75, e132_77, e132_80, e132_81, e132_84, e132_85, e132_86, e132_87, e132_88, e132_89, e132_91, e132_92, e132_95, e132_98, e132_102, e132_105, e132_108, e132_111, e132_112, e132_115, e132_116, e132_117, e132_120, e132_123, e132_124, zU_app, zbI_some, zbV_some, Int.reduceToNat, Int.reduceLE, Int.reduceLT, Int.reduceEq, Nat.reduceEqDiff, and_self, and_true, true_and, and_false, false_and, if_true, if_false, ne_eq, not_true_eq_false, not_false_eq_true, reduceCtorEq, eq_self, true_or, or_true, or_false, false_or, zbR_some, e1]
    by_cases y : paB w = true
    · rw [zb_t y, if_neg (by decide), zwr_id (by omega) (by omega), last, if_pos y]
    · rw [zb_f y, if_pos rfl, last, if_neg y, Int.add_zero]
theorem k_play {w : Nat → Int} {ls : List (List (Int × Int) × List (Int × Int))} (hV : VOk w ls) (d n t : Nat) (f : Nat → Nat → Int) (k : Int) (g : zG) (h : RdAt g 0 w ls) (hH : HrAt g n t f w ls) : ∃ g' t', EvM (d + 6) 132 [.inr (11, 0), .inl k] g = some (some (.inl (aPlay w n f k).2.2.2), g') ∧ VOk (aPlay w n f k).1 ls ∧ RdAt g' 0 (aPlay w n f k).1 ls ∧ HrAt g' (aPlay w n f k).2.1 t' (aPlay w n f k).2.2.1 (aPlay w n f k).1 ls ∧ Fr sPy g g' := by
  have h17 := hV.1.1.2.2.2.1
  unfold aPlay
  by_cases hc : (1 ≤ k ∧ k ≤ 200) ∧ w 17 ≠ 0
  · rw [if_pos hc]
    have hN := hV.1.1.2.2.2.2.2.1
    obtain ⟨nn, hnn⟩ : ∃ nn : Nat, w 0 = ((nn + 1 : Nat) : Int) := ⟨(w 0).toNat - 1, by have := hN.1; omega⟩
    have hn9 : nn < 9999 := by have := hN.1; omega
    have hrn : (w 0).toNat - 1 = nn := by omega
    obtain ⟨r, e1, hr, hr2⟩ := k_runAhead (d + 2) 0 0 nn g h.2.1 hV.1.2.1 h.2.2.1 (by rw [h.2.2.2.2.1.1, hnn]) hn9
    obtain ⟨g2, t2, e2, v2, r2, H2, f2⟩ := k_playL d k hc.1.2 k.toNat 0 w n t f 0 r none g (by omega) hV (by omega) h hH (by omega) (by rw [hrn]; exact hr) (by omega)
    refine ⟨g2, t2, ?_, v2, r2, H2, f2⟩
    rw [en132]
    simp (disch := omega) only [e132_0, e132_1, e132_2, e132_5, e132_6, e132_9, e132_12, e132_13, e132_16, e132_19, e132_22, e132_25, e132_26, e132_27, e132_28, e132_29, e132_30, e132_33, e132_34, e132_37, e132_40, e132_43, e132_44, e132_45, e132_49, e132_50, e132_53, e132_54, e132_57, e132_60, e132_61, e132_64, e132_67, e132_70, e132_73, e132_75, e132_77, e132_80, e132_81, e132_84, e132_85, e132_86, e132_87, e132_88, e132_89, e132_91, e132_92, e132_95, e132_98, e132_101, e132_102, e132_105, e132_108, e132_111, e132_112, e132_115, e132_116, e132_117, e132_120, e132_123, e132_124, zU_app, zbI_some, zbV_some, Int.reduceToNat, Int.reduceLE, Int.reduceLT, Int.reduceEq, Nat.reduceEqDiff, and_self, and_true, true_and, and_false, false_and, if_true, if_false, ne_eq, not_true_eq_false, not_false_eq_true, reduceCtorEq, eq_self, true_or, or_true, or_false, false_or, zbR_some, zwr_id, if_pos, if_neg, h.1.1, e1]
    exact e2
  · rw [if_neg hc]
    refine ⟨g, t, ?_, hV, h, hH, Fr.rf⟩
    rw [en132]
    simp only [e132_0, e132_1, e132_2, e132_5, e132_6, e132_9, e132_12, e132_13, e132_16, e132_19, e132_22, e132_25, e132_26, e132_27, e132_28, e132_29, e132_30, e132_33, e132_34, e132_37, e132_40, e132_43, e132_44, e132_45, e132_49, e132_50, e132_53, e132_54, e132_57, e132_60, e132_61, e132_64, e132_67, e132_70, e132_73, e132_75, e132_77, e132_80, e132_81, e132_84, e132_85, e132_86, e132_87, e132_88, e132_89, e132_91, e132_92, e132_95, e132_98, e132_101, e132_102, e132_105, e132_108, e132_111, e132_112, e132_115, e132_116, e132_117, e132_120, e132_123, e132_124, zU_app, zbI_some, zbV_some, Int.reduceToNat, Int.reduceLE, Int.reduceLT, Int.reduceEq, Nat.reduceEqDiff, and_self, and_true, true_and, and_false, false_and, if_true, if_false, ne_eq, not_true_eq_false, not_false_eq_true, reduceCtorEq, eq_self, true_or, or_true, or_false, false_or, zbR_some, h.1.1]
    by_cases q1 : k < 1
    · rw [if_pos q1]
    · by_cases q2 : 200 < k
      · rw [if_neg q1, if_pos q2]
      · rw [if_neg q1, if_neg q2, if_neg (by omega)]
