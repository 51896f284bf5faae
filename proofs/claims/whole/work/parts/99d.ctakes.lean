/-! THE CLASS: the maker takes any token -/
section TB
variable {W Sd : Int} {C : Bool} {ws : List Int} {n : Nat} {cd : List Int} {g : zG}
theorem k_takeWhen (d : Nat) (h : LmAt g W Sd C ws n cd) (hw : WsOk ws) (ho : opn ws ≤ 8) (hlen : cd.length + ws.length < 400) : ∃ g', EvM (d + 2) 108 [.inr (4, 0)] g = some (some (.inl 0), g') ∧ TkR g' 0 (cd.length + ws.length + 1) (.inr (1, 1, true, (fl 1 ws cd).1, n, (fl 1 ws cd).2)) ∧ Fr sLm g g' := by
  obtain ⟨g1, e1, L1, f1⟩ := k_jw d 1 (by decide) h hw ho (by omega)
  obtain ⟨a1, a2, a3, a4⟩ := fl_ok 1 ws cd hw
  have e1 : EvM (d + 1) 104 [.inr (4, 0), .inl 1] g = some (none, g1) := e1
  have L2 : LmAt (zU (zU (zU g1 4 0 4 1) 4 0 3 1) 4 0 2 1) 1 1 true (fl 1 ws cd).1 n (fl 1 ws cd).2 := ((L1.c (C' := true) rfl).s).w
  refine ⟨zU (zU (zU g1 4 0 4 1) 4 0 3 1) 4 0 2 1, ?_, ⟨rfl, L2, ⟨a1, by show opn (fl 1 ws cd).1 ≤ 8; omega, fun _ => ?_⟩, ?_, by show (0 : Int) ≤ 1 ∧ (1 : Int) ≤ 5; decide⟩, ((f1.tr (Fr.u (by unfold sLm; omega))).tr (Fr.u (by unfold sLm; omega))).tr (Fr.u (by unfold sLm; omega))⟩
  · rw [en108]
    simp only [e108_0, e108_1, e108_2, e108_5, e108_6, e108_7, e108_10, e108_11, e108_12, e108_15, e108_16, e108_17, e108_20, e108_21, zU_app, zbI_some, zbV_some, Int.reduceToNat, Int.reduceLE, Int.reduceLT, Int.reduceEq, Nat.reduceEqDiff, and_self, and_true, true_and, and_false, false_and, if_true, if_false, ne_eq, not_true_eq_false, not_false_eq_true, reduceCtorEq, eq_self, true_or, or_true, or_false, false_or, zbR_some, e1]
  · show ltt (fl 1 ws cd).1 ≤ 2
    rcases a4 with q | q
    · cases hh : (fl 1 ws cd).1 with
      | nil => exact Nat.zero_le _
      | cons x r =>
        rw [hh] at q
        have q : lev x < 1 := q
        have := lev_cases x
        show ltp x ≤ 2
        omega
    · rw [q]; exact Nat.zero_le _
  · show (fl 1 ws cd).2.length + (fl 1 ws cd).1.length ≤ _
    omega
theorem k_close (d : Nat) (h : LmAt g W Sd C ws n cd) (hw : WsOk ws) (ho : opn ws ≤ 8) (hlen : cd.length + ws.length < 400) (hb : 0 < brk ws) : ∃ g', EvM (d + 2) 109 [.inr (4, 0)] g = some (some (.inl 0), g') ∧ TkR g' 0 (cd.length + ws.length + 1) (.inr (5, Sd, C, (fl 1 ws cd).1.tail, n, (fl 1 ws cd).2)) ∧ Fr sLm g g' := by
  obtain ⟨g1, e1, L1, f1⟩ := k_jw d 1 (by decide) h hw ho (by omega)
  obtain ⟨a1, a2, a3, a4⟩ := fl_ok 1 ws cd hw
  have hb1 := fl_brk (l := 1) (by decide) ws cd
  have e1 : EvM (d + 1) 104 [.inr (4, 0), .inl 1] g = some (none, g1) := e1
  cases hh : (fl 1 ws cd).1 with
  | nil => rw [hh] at hb1; rw [← hb1] at hb; cases hb
  | cons x r =>
    rw [hh] at L1 a1 a2 a3 a4
    have hx : x = 40 := by
      rcases a4 with q | q
      · have q : lev x < 1 := q
        rcases a1.2.2.2 with z | z
        · omega
        · exact z
      · cases q
    subst hx
    have ob : opn (40 :: r) = opn r + 1 := by rw [opn, if_pos (Or.inl rfl)]
    have bb : brk (40 :: r) = brk r + 1 := by rw [brk, if_pos rfl]
    obtain ⟨l1, l2, l3, l4, l5, l6, l7, l8⟩ := L1
    rw [bb] at l4
    rw [ob] at l5
    rw [List.length_cons] at l6 a3
    have h29 := (ws_len a1.1 (by omega)).2
    let g4 := zU (zU (zU (zU g1 4 0 8 (r.length : Int)) 4 0 5 (brk r : Int)) 4 0 6 (opn r : Int)) 4 0 2 5
    have hbl : brk r ≤ 8 := by
      have : ∀ l : List Int, brk l ≤ opn l := by
        intro l
        induction l with
        | nil => exact Nat.le_refl _
        | cons y l ih =>
          rw [brk, opn]
          by_cases q : y = 40
          · rw [if_pos q, if_pos (Or.inl q)]; omega
          · rw [if_neg q]; omega
      have := this r
      omega
    refine ⟨g4, ?_, ⟨rfl, ⟨rfl, l2, l3, rfl, rfl, rfl, l7.tl, l8.fr (fun k x q => ?_)⟩, ⟨a1.1, by show opn r ≤ 8; omega, fun q => by cases q⟩, by show (fl 1 ws cd).2.length + r.length ≤ _; omega, by show (0 : Int) ≤ 5 ∧ (5 : Int) ≤ 5; decide⟩, (((f1.tr (Fr.u (by unfold sLm; omega))).tr (Fr.u (by unfold sLm; omega))).tr (Fr.u (by unfold sLm; omega))).tr (Fr.u (by unfold sLm; omega))⟩
    · have z1 : zwr (((r.length + 1 : Nat) : Int) - 1) = (r.length : Int) := by rw [zwr_id (by omega) (by omega)]; omega
      have z2 : zwr (((brk r + 1 : Nat) : Int) - 1) = (brk r : Int) := by rw [zwr_id (by omega) (by omega)]; omega
      have z3 : zwr (((opn r + 1 : Nat) : Int) - 1) = (opn r : Int) := by rw [zwr_id (by omega) (by omega)]; omega
      rw [en109]
      simp only [e109_0, e109_1, e109_2, e109_5, e109_6, e109_9, e109_12, e109_13, e109_14, e109_17, e109_18, e109_19, e109_22, e109_23, e109_24, e109_27, e109_28, e109_29, e109_32, e109_33, e109_34, e109_37, e109_38, e109_39, e109_42, e109_43, e109_44, e109_47, e109_48, zU_app, zbI_some, zbV_some, Int.reduceToNat, Int.reduceLE, Int.reduceLT, Int.reduceEq, Nat.reduceEqDiff, and_self, and_true, true_and, and_false, false_and, if_true, if_false, ne_eq, not_true_eq_false, not_false_eq_true, reduceCtorEq, eq_self, true_or, or_true, or_false, false_or, zbR_some, e1, l4, l5, l6, z1, z2, z3]
      rw [if_neg (by omega)]
    · show zU (zU (zU (zU g1 4 0 8 (r.length : Int)) 4 0 5 (brk r : Int)) 4 0 6 (opn r : Int)) 4 0 2 5 k 2 x = _
      rw [zU_ne (by omega), zU_ne (by omega), zU_ne (by omega), zU_ne (by omega)]
theorem k_takeJoin (d : Nat) (t : Int) (h : LmAt g W Sd C ws n cd) (hw : WsOk ws) (ho : opn ws ≤ 8) (hlen : cd.length + ws.length < 400) (hn : n < 1000) : ∃ g' r, EvM (d + 3) 106 [.inr (4, 0), .inl t] g = some (some (.inl r), g') ∧ TkR g' r (cd.length + ws.length + 1) (tQj Sd C ws n cd t) ∧ Fr sLm g g' := by
  unfold tQj
  have h4 := h.2.2.2.1
  have h3 := h.2.1
  by_cases q1 : t = 59 ∧ brk ws = 0
  · rw [if_pos q1]
    obtain ⟨g1, e1, R1, f1⟩ := k_endLine d h hw ho hlen q1.2 hn
    refine ⟨g1, 0, ?_, R1, f1⟩
    rw [en106]
    simp only [e106_0, e106_1, e106_3, e106_6, e106_7, e106_10, e106_13, e106_14, e106_17, e106_18, e106_19, e106_22, e106_25, e106_26, e106_28, e106_31, e106_32, e106_35, e106_38, e106_39, e106_40, e106_41, e106_43, e106_46, e106_47, e106_49, e106_52, e106_53, e106_54, e106_57, e106_58, e106_59, e106_60, e106_63, e106_64, e106_65, e106_67, e106_70, e106_71, e106_74, e106_77, e106_78, e106_81, e106_84, e106_85, zU_app, zbI_some, zbV_some, Int.reduceToNat, Int.reduceLE, Int.reduceLT, Int.reduceEq, Nat.reduceEqDiff, and_self, and_true, true_and, and_false, false_and, if_true, if_false, ne_eq, not_true_eq_false, not_false_eq_true, reduceCtorEq, eq_self, true_or, or_true, or_false, false_or, zbR_some, h4, e1]
    rw [if_neg (by omega), if_neg (by omega)]
  · rw [if_neg q1]
    have first : EvM (d + 3) 106 [.inr (4, 0), .inl t] g = Ev (d + 3) 106 18 [some (.inr (4, 0)), some (.inl t)] [] g := by
      rw [en106]
      simp only [e106_0, e106_1, e106_3, e106_6, e106_7, e106_10, e106_13, e106_14, e106_17, e106_19, e106_22, e106_25, e106_26, e106_28, e106_31, e106_32, e106_35, e106_38, e106_39, e106_40, e106_41, e106_43, e106_46, e106_47, e106_49, e106_52, e106_53, e106_54, e106_57, e106_58, e106_59, e106_60, e106_63, e106_64, e106_65, e106_67, e106_70, e106_71, e106_74, e106_77, e106_78, e106_81, e106_84, e106_85, zU_app, zbI_some, zbV_some, Int.reduceToNat, Int.reduceLE, Int.reduceLT, Int.reduceEq, Nat.reduceEqDiff, and_self, and_true, true_and, and_false, false_and, if_true, if_false, ne_eq, not_true_eq_false, not_false_eq_true, reduceCtorEq, eq_self, true_or, or_true, or_false, false_or, zbR_some, h4]
      by_cases z : t = 59
      · rw [if_neg (by omega), if_pos (by omega)]
      · rw [if_pos z]
    rw [first]
    by_cases q2 : Sd = 0
    · rw [if_pos q2]
      by_cases q3 : t = 11
      · rw [if_pos q3]
        obtain ⟨g1, e1, R1, f1⟩ := k_takeWhen d h hw ho hlen
        refine ⟨g1, 0, ?_, R1, f1⟩
        simp only [e106_0, e106_1, e106_3, e106_6, e106_7, e106_10, e106_13, e106_14, e106_17, e106_18, e106_19, e106_22, e106_25, e106_26, e106_28, e106_31, e106_32, e106_35, e106_38, e106_39, e106_40, e106_41, e106_43, e106_46, e106_47, e106_49, e106_52, e106_53, e106_54, e106_57, e106_58, e106_59, e106_60, e106_63, e106_64, e106_65, e106_67, e106_70, e106_71, e106_74, e106_77, e106_78, e106_81, e106_84, e106_85, zU_app, zbI_some, zbV_some, Int.reduceToNat, Int.reduceLE, Int.reduceLT, Int.reduceEq, Nat.reduceEqDiff, and_self, and_true, true_and, and_false, false_and, if_true, if_false, ne_eq, not_true_eq_false, not_false_eq_true, reduceCtorEq, eq_self, true_or, or_true, or_false, false_or, zbR_some, h3, e1]
        rw [if_neg (by omega), if_neg (by omega)]
      · rw [if_neg q3]
        refine ⟨g, 1, ?_, ⟨rfl, by decide⟩, Fr.rf⟩
        simp only [e106_0, e106_1, e106_3, e106_6, e106_7, e106_10, e106_13, e106_14, e106_17, e106_18, e106_19, e106_22, e106_25, e106_26, e106_28, e106_31, e106_32, e106_35, e106_38, e106_39, e106_40, e106_41, e106_43, e106_46, e106_47, e106_49, e106_52, e106_53, e106_54, e106_57, e106_58, e106_59, e106_60, e106_63, e106_64, e106_65, e106_67, e106_70, e106_71, e106_74, e106_77, e106_78, e106_81, e106_84, e106_85, zU_app, zbI_some, zbV_some, Int.reduceToNat, Int.reduceLE, Int.reduceLT, Int.reduceEq, Nat.reduceEqDiff, and_self, and_true, true_and, and_false, false_and, if_true, if_false, ne_eq, not_true_eq_false, not_false_eq_true, reduceCtorEq, eq_self, true_or, or_true, or_false, false_or, zbR_some, h3]
        rw [if_neg (by omega), if_pos q3]
    · rw [if_neg q2]
      by_cases q3 : t = 12 ∨ t = 13
      · rw [if_pos q3]
        have hl : 1 ≤ lev t ∧ lev t ≤ 2 := by rcases q3 with z | z <;> (rw [z]; decide)
        obtain ⟨g1, e1, R1, f1⟩ := k_joinBy d t 1 (h.s (S' := 1)) hw ho hlen hl.1 (by omega) (by decide) (fun _ => hl.2)
        refine ⟨g1, 0, ?_, R1, (Fr.u (by unfold sLm; omega)).tr f1⟩
        simp only [e106_0, e106_1, e106_3, e106_6, e106_7, e106_10, e106_13, e106_14, e106_17, e106_18, e106_19, e106_22, e106_25, e106_26, e106_28, e106_31, e106_32, e106_35, e106_38, e106_39, e106_40, e106_41, e106_43, e106_46, e106_47, e106_49, e106_52, e106_53, e106_54, e106_57, e106_58, e106_59, e106_60, e106_63, e106_64, e106_65, e106_67, e106_70, e106_71, e106_74, e106_77, e106_78, e106_81, e106_84, e106_85, zU_app, zbI_some, zbV_some, Int.reduceToNat, Int.reduceLE, Int.reduceLT, Int.reduceEq, Nat.reduceEqDiff, and_self, and_true, true_and, and_false, false_and, if_true, if_false, ne_eq, not_true_eq_false, not_false_eq_true, reduceCtorEq, eq_self, true_or, or_true, or_false, false_or, zbR_some, h3, e1]
        rw [if_pos q2]
        by_cases z : t = 12
        · rw [if_pos z]
        · rw [if_neg z, if_neg (by omega)]
      · rw [if_neg q3]
        by_cases q4 : t = 41 ∧ 0 < brk ws
        · rw [if_pos q4]
          obtain ⟨g1, e1, R1, f1⟩ := k_close d h hw ho hlen q4.2
          refine ⟨g1, 0, ?_, R1, f1⟩
          simp only [e106_0, e106_1, e106_3, e106_6, e106_7, e106_10, e106_13, e106_14, e106_17, e106_18, e106_19, e106_22, e106_25, e106_26, e106_28, e106_31, e106_32, e106_35, e106_38, e106_39, e106_40, e106_41, e106_43, e106_46, e106_47, e106_49, e106_52, e106_53, e106_54, e106_57, e106_58, e106_59, e106_60, e106_63, e106_64, e106_65, e106_67, e106_70, e106_71, e106_74, e106_77, e106_78, e106_81, e106_84, e106_85, zU_app, zbI_some, zbV_some, Int.reduceToNat, Int.reduceLE, Int.reduceLT, Int.reduceEq, Nat.reduceEqDiff, and_self, and_true, true_and, and_false, false_and, if_true, if_false, ne_eq, not_true_eq_false, not_false_eq_true, reduceCtorEq, eq_self, true_or, or_true, or_false, false_or, zbR_some, h3, h4, e1]
          rw [if_pos q2, if_neg (by omega), if_pos (by omega), if_neg (by omega), if_neg (by omega)]
        · rw [if_neg q4]
          refine ⟨g, 1, ?_, ⟨rfl, by decide⟩, Fr.rf⟩
          simp only [e106_0, e106_1, e106_3, e106_6, e106_7, e106_10, e106_13, e106_14, e106_17, e106_18, e106_19, e106_22, e106_25, e106_26, e106_28, e106_31, e106_32, e106_35, e106_38, e106_39, e106_40, e106_41, e106_43, e106_46, e106_47, e106_49, e106_52, e106_53, e106_54, e106_57, e106_58, e106_59, e106_60, e106_63, e106_64, e106_65, e106_67, e106_70, e106_71, e106_74, e106_77, e106_78, e106_81, e106_84, e106_85, zU_app, zbI_some, zbV_some, Int.reduceToNat, Int.reduceLE, Int.reduceLT, Int.reduceEq, Nat.reduceEqDiff, and_self, and_true, true_and, and_false, false_and, if_true, if_false, ne_eq, not_true_eq_false, not_false_eq_true, reduceCtorEq, eq_self, true_or, or_true, or_false, false_or, zbR_some, h3, h4]
          rw [if_pos q2, if_neg (by omega), if_pos (by omega)]
          by_cases z : t = 41
          · rw [if_neg (by omega), if_pos (by omega)]
          · rw [if_pos z]
set_option maxHeartbeats 1000000 in
theorem k_take (d : Nat) (t v : Int) (h : LmAt g W Sd C ws n cd) (hI : PsI W ws) (hlen : cd.length + ws.length < 400) (hn : n < 1000) (hW : 0 ≤ W ∧ W ≤ 5) (hv : t = 9 → g 9 0 2 = v) : ∃ g' r, EvM (d + 4) 94 [.inr (4, 0), .inl t] g = some (some (.inl r), g') ∧ TkR g' r (cd.length + ws.length + 1) (tQs W Sd C ws n cd t v) ∧ Fr sLm g g' := by
  obtain ⟨hw, ho, hI1⟩ := hI
  have h2 := h.1
  have h3 := h.2.1
  have kl := fun d => k_level d t g
  unfold tQs
  rw [en94]
  by_cases w0 : W = 0
  · subst w0
    rw [if_pos rfl]
    have hl0 := h.2.2.2.2.2.2.2.1
    by_cases q1 : t = 10
    · rw [if_pos q1]
      by_cases q2 : 16 ≤ n
      · rw [if_pos q2]
        refine ⟨g, 3, ?_, ⟨rfl, by decide⟩, Fr.rf⟩
        simp only [e94_0, e94_1, e94_4_c0, e94_4_c1, e94_4_c2, e94_4_c3, e94_4_c4, e94_4_def, e94_40, e94_41, e94_42, e94_45, e94_46, e94_47, e94_49, e94_52, e94_53, e94_55, e94_58, e94_59, e94_60, e94_63, e94_66, e94_67, e94_68, e94_71, e94_72, e94_73, e94_74, e94_77, e94_78, e94_79, e94_80, e94_83, e94_84, e94_85, e94_88, e94_89, e94_92, e94_93, e94_94, e94_97, e94_98, e94_99, e94_102, e94_103, e94_106, e94_107, e94_108, e94_111, e94_114, e94_115, e94_116, e94_119, e94_120, e94_121, e94_122, e94_125, zU_app, zbI_some, zbV_some, Int.reduceToNat, Int.reduceLE, Int.reduceLT, Int.reduceEq, Nat.reduceEqDiff, and_self, and_true, true_and, and_false, false_and, if_true, if_false, ne_eq, not_true_eq_false, not_false_eq_true, reduceCtorEq, eq_self, true_or, or_true, or_false, false_or, zbR_some, h2]
        rw [en95]
        simp (disch := omega) only [e95_0, e95_1, e95_3, e95_6, e95_7, e95_8, e95_9, e95_12, e95_15, e95_17, e95_20, e95_21, e95_22, e95_23, e95_24, e95_27, e95_28, e95_29, e95_32, e95_33, e95_34, e95_37, e95_38, zU_app, zbI_some, zbV_some, Int.reduceToNat, Int.reduceLE, Int.reduceLT, Int.reduceEq, Nat.reduceEqDiff, and_self, and_true, true_and, and_false, false_and, if_true, if_false, ne_eq, not_true_eq_false, not_false_eq_true, reduceCtorEq, eq_self, true_or, or_true, or_false, false_or, zbR_some, zwr_id, if_pos, if_neg, hl0]
      · rw [if_neg q2]
        have L1 : LmAt (zU (zU (zU g 4 0 3 0) 4 0 4 0) 4 0 2 2) 2 0 false ws n cd := ((h.s (S' := 0)).c (C' := false) rfl).w
        refine ⟨_, 0, ?_, ⟨rfl, L1, ⟨hw, ho, fun q => by cases q⟩, by show cd.length + ws.length ≤ _; omega, by show (0 : Int) ≤ 2 ∧ (2 : Int) ≤ 5; decide⟩, ((Fr.u (by unfold sLm; omega)).tr (Fr.u (by unfold sLm; omega))).tr (Fr.u (by unfold sLm; omega))⟩
        simp only [e94_0, e94_1, e94_4_c0, e94_4_c1, e94_4_c2, e94_4_c3, e94_4_c4, e94_4_def, e94_40, e94_41, e94_42, e94_45, e94_46, e94_47, e94_49, e94_52, e94_53, e94_55, e94_58, e94_59, e94_60, e94_63, e94_66, e94_67, e94_68, e94_71, e94_72, e94_73, e94_74, e94_77, e94_78, e94_79, e94_80, e94_83, e94_84, e94_85, e94_88, e94_89, e94_92, e94_93, e94_94, e94_97, e94_98, e94_99, e94_102, e94_103, e94_106, e94_107, e94_108, e94_111, e94_114, e94_115, e94_116, e94_119, e94_120, e94_121, e94_122, e94_125, zU_app, zbI_some, zbV_some, Int.reduceToNat, Int.reduceLE, Int.reduceLT, Int.reduceEq, Nat.reduceEqDiff, and_self, and_true, true_and, and_false, false_and, if_true, if_false, ne_eq, not_true_eq_false, not_false_eq_true, reduceCtorEq, eq_self, true_or, or_true, or_false, false_or, zbR_some, h2]
        rw [en95]
        simp (disch := omega) only [e95_0, e95_1, e95_3, e95_6, e95_7, e95_8, e95_9, e95_12, e95_15, e95_17, e95_20, e95_21, e95_22, e95_23, e95_24, e95_27, e95_28, e95_29, e95_32, e95_33, e95_34, e95_37, e95_38, zU_app, zbI_some, zbV_some, Int.reduceToNat, Int.reduceLE, Int.reduceLT, Int.reduceEq, Nat.reduceEqDiff, and_self, and_true, true_and, and_false, false_and, if_true, if_false, ne_eq, not_true_eq_false, not_false_eq_true, reduceCtorEq, eq_self, true_or, or_true, or_false, false_or, zbR_some, zwr_id, if_pos, if_neg, hl0]
    · rw [if_neg q1]
      refine ⟨g, 1, ?_, ⟨rfl, by decide⟩, Fr.rf⟩
      simp only [e94_0, e94_1, e94_4_c0, e94_4_c1, e94_4_c2, e94_4_c3, e94_4_c4, e94_4_def, e94_40, e94_41, e94_42, e94_45, e94_46, e94_47, e94_49, e94_52, e94_53, e94_55, e94_58, e94_59, e94_60, e94_63, e94_66, e94_67, e94_68, e94_71, e94_72, e94_73, e94_74, e94_77, e94_78, e94_79, e94_80, e94_83, e94_84, e94_85, e94_88, e94_89, e94_92, e94_93, e94_94, e94_97, e94_98, e94_99, e94_102, e94_103, e94_106, e94_107, e94_108, e94_111, e94_114, e94_115, e94_116, e94_119, e94_120, e94_121, e94_122, e94_125, zU_app, zbI_some, zbV_some, Int.reduceToNat, Int.reduceLE, Int.reduceLT, Int.reduceEq, Nat.reduceEqDiff, and_self, and_true, true_and, and_false, false_and, if_true, if_false, ne_eq, not_true_eq_false, not_false_eq_true, reduceCtorEq, eq_self, true_or, or_true, or_false, false_or, zbR_some, h2]
      rw [en95]
      simp (disch := omega) only [e95_0, e95_1, e95_3, e95_6, e95_7, e95_8, e95_9, e95_12, e95_15, e95_17, e95_20, e95_21, e95_22, e95_23, e95_24, e95_27, e95_28, e95_29, e95_32, e95_33, e95_34, e95_37, e95_38, zU_app, zbI_some, zbV_some, Int.reduceToNat, Int.reduceLE, Int.reduceLT, Int.reduceEq, Nat.reduceEqDiff, and_self, and_true, true_and, and_false, false_and, if_true, if_false, ne_eq, not_true_eq_false, not_false_eq_true, reduceCtorEq, eq_self, true_or, or_true, or_false, false_or, zbR_some, zwr_id, if_pos, if_neg]
  · rw [if_neg w0]
    by_cases w1 : W = 1
    · subst w1
      rw [if_pos rfl]
      by_cases q1 : t = 14 ∨ t = 40
      · rw [if_pos q1]
        have h6 := h.2.2.2.2.1
        have h5 := h.2.2.2.1
        by_cases q2 : 8 ≤ opn ws
        · rw [if_pos q2]
          refine ⟨g, 3, ?_, ⟨rfl, by decide⟩, Fr.rf⟩
          simp only [e94_0, e94_1, e94_4_c0, e94_4_c1, e94_4_c2, e94_4_c3, e94_4_c4, e94_4_def, e94_40, e94_41, e94_42, e94_45, e94_46, e94_47, e94_49, e94_52, e94_53, e94_55, e94_58, e94_59, e94_60, e94_63, e94_66, e94_67, e94_68, e94_71, e94_72, e94_73, e94_74, e94_77, e94_78, e94_79, e94_80, e94_83, e94_84, e94_85, e94_88, e94_89, e94_92, e94_93, e94_94, e94_97, e94_98, e94_99, e94_102, e94_103, e94_106, e94_107, e94_108, e94_111, e94_114, e94_115, e94_116, e94_119, e94_120, e94_121, e94_122, e94_125, zU_app, zbI_some, zbV_some, Int.reduceToNat, Int.reduceLE, Int.reduceLT, Int.reduceEq, Nat.reduceEqDiff, and_self, and_true, true_and, and_false, false_and, if_true, if_false, ne_eq, not_true_eq_false, not_false_eq_true, reduceCtorEq, eq_self, true_or, or_true, or_false, false_or, zbR_some, h2]
          rw [en96]
          simp (disch := omega) only [e96_0, e96_1, e96_4, e96_6, e96_9, e96_10, e96_11, e96_12, e96_13, e96_16, e96_17, e96_18, e96_21, e96_22, e96_24, e96_27, e96_28, e96_29, e96_32, e96_33, e96_34, e96_37, e96_38, e96_39, e96_42, e96_43, zU_app, zbI_some, zbV_some, Int.reduceToNat, Int.reduceLE, Int.reduceLT, Int.reduceEq, Nat.reduceEqDiff, and_self, and_true, true_and, and_false, false_and, if_true, if_false, ne_eq, not_true_eq_false, not_false_eq_true, reduceCtorEq, eq_self, true_or, or_true, or_false, false_or, zbR_some, zwr_id, if_pos, if_neg, h6]
          by_cases z : t = 14
          · try rw [if_pos z]
          · first | rw [if_neg z, if_neg (by omega)] | rw [if_neg z]
        · rw [if_neg q2]
          have h29 := (ws_len hw ho).2
          have hbl : brk ws ≤ 8 := by
            have : ∀ l : List Int, brk l ≤ opn l := by
              intro l
              induction l with
              | nil => exact Nat.le_refl _
              | cons y l ih =>
                rw [brk, opn]
                by_cases q : y = 40
                · rw [if_pos q, if_pos (Or.inl q)]; omega
                · rw [if_neg q]; omega
            have := this ws
            omega
          have z6 : zwr ((opn ws : Int) + 1) = ((opn ws + 1 : Nat) : Int) := by rw [zwr_id (by omega) (by omega)]; omega
          have z5 : zwr ((brk ws : Int) + 1) = ((brk ws + 1 : Nat) : Int) := by rw [zwr_id (by omega) (by omega)]; omega
          have hop : opn (t :: ws) = opn ws + 1 := by rw [opn, if_pos (by omega)]
          let g1 := if t = 40 then zU (zU g 4 0 6 ((opn ws + 1 : Nat) : Int)) 4 0 5 ((brk ws + 1 : Nat) : Int) else zU g 4 0 6 ((opn ws + 1 : Nat) : Int)
          have n1 : ∀ k a x, ¬ (k = 4 ∧ a = 0 ∧ (x = 5 ∨ x = 6)) → g1 k a x = g k a x := fun k a x hk => by
            show (if t = 40 then zU (zU g 4 0 6 ((opn ws + 1 : Nat) : Int)) 4 0 5 ((brk ws + 1 : Nat) : Int) else zU g 4 0 6 ((opn ws + 1 : Nat) : Int)) k a x = _
            split
            · rw [zU_ne (by omega), zU_ne (by omega)]
            · rw [zU_ne (by omega)]
          have f1 : Fr sLm g g1 := fun k a x hk => n1 k a x (fun q => hk (Or.inl ⟨q.1, q.2.1⟩))
          have r6 : g1 4 0 6 = ((opn ws + 1 : Nat) : Int) := by
            show (if t = 40 then zU (zU g 4 0 6 ((opn ws + 1 : Nat) : Int)) 4 0 5 ((brk ws + 1 : Nat) : Int) else zU g 4 0 6 ((opn ws + 1 : Nat) : Int)) 4 0 6 = _
            split <;> rfl
          have r5 : g1 4 0 5 = (brk (t :: ws) : Int) := by
            show (if t = 40 then zU (zU g 4 0 6 ((opn ws + 1 : Nat) : Int)) 4 0 5 ((brk ws + 1 : Nat) : Int) else zU g 4 0 6 ((opn ws + 1 : Nat) : Int)) 4 0 5 = _
            rw [brk]
            by_cases z : t = 40
            · rw [if_pos z, if_pos z]; rfl
            · rw [if_neg z, if_neg z]; exact h5
          have r8 : g1 4 0 8 = (ws.length : Int) := by rw [n1 _ _ _ (by omega)]; exact h.2.2.2.2.2.1
          have e2 := k_await (d + 2) t r8 (by omega)
          refine ⟨zU (zU g1 31 0 ws.length t) 4 0 8 ((ws.length + 1 : Nat) : Int), 0, ?_, ⟨rfl, ?_, PsI.opg ⟨hw, ho, hI1⟩ (by omega) q1, by show cd.length + (t :: ws).length ≤ _; rw [List.length_cons]; omega, by show (0 : Int) ≤ 1 ∧ (1 : Int) ≤ 5; decide⟩, (f1.tr (Fr.u (by unfold sLm; omega))).tr (Fr.u (by unfold sLm; omega))⟩
          · simp only [e94_0, e94_1, e94_4_c0, e94_4_c1, e94_4_c2, e94_4_c3, e94_4_c4, e94_4_def, e94_40, e94_41, e94_42, e94_45, e94_46, e94_47, e94_49, e94_52, e94_53, e94_55, e94_58, e94_59, e94_60, e94_63, e94_66, e94_67, e94_68, e94_71, e94_72, e94_73, e94_74, e94_77, e94_78, e94_79, e94_80, e94_83, e94_84, e94_85, e94_88, e94_89, e94_92, e94_93, e94_94, e94_97, e94_98, e94_99, e94_102, e94_103, e94_106, e94_107, e94_108, e94_111, e94_114, e94_115, e94_116, e94_119, e94_120, e94_121, e94_122, e94_125, zU_app, zbI_some, zbV_some, Int.reduceToNat, Int.reduceLE, Int.reduceLT, Int.reduceEq, Nat.reduceEqDiff, and_self, and_true, true_and, and_false, false_and, if_true, if_false, ne_eq, not_true_eq_false, not_false_eq_true, reduceCtorEq, eq_self, true_or, or_true, or_false, false_or, zbR_some, h2]
            rw [en96]
            have mid : Ev (d + 3) 96 0 [some (.inr (4, 0)), some (.inl t)] [] g = some (some (.inl 0), zU (zU g1 31 0 ws.length t) 4 0 8 ((ws.length + 1 : Nat) : Int)) := by
              simp only [e96_0, e96_1, e96_4, e96_6, e96_9, e96_10, e96_11, e96_12, e96_13, e96_16, e96_17, e96_18, e96_21, e96_22, e96_24, e96_27, e96_28, e96_29, e96_32, e96_33, e96_34, e96_38, e96_39, e96_42, e96_43, zU_app, zbI_some, zbV_some, Int.reduceToNat, Int.reduceLE, Int.reduceLT, Int.reduceEq, Nat.reduceEqDiff, and_self, and_true, true_and, and_false, false_and, if_true, if_false, ne_eq, not_true_eq_false, not_false_eq_true, reduceCtorEq, eq_self, true_or, or_true, or_false, false_or, zbR_some, h6, h5, z6, z5]
              rw [if_pos (by omega)]
              have fin : Ev (d + 3) 96 37 [some (.inr (4, 0)), some (.inl t)] [] g1 = some (some (.inl 0), zU (zU g1 31 0 ws.length t) 4 0 8 ((ws.length + 1 : Nat) : Int)) := by
                simp only [e96_0, e96_1, e96_4, e96_6, e96_9, e96_10, e96_11, e96_12, e96_13, e96_16, e96_17, e96_18, e96_21, e96_22, e96_24, e96_27, e96_28, e96_29, e96_32, e96_33, e96_34, e96_37, e96_38, e96_39, e96_42, e96_43, zU_app, zbI_some, zbV_some, Int.reduceToNat, Int.reduceLE, Int.reduceLT, Int.reduceEq, Nat.reduceEqDiff, and_self, and_true, true_and, and_false, false_and, if_true, if_false, ne_eq, not_true_eq_false, not_false_eq_true, reduceCtorEq, eq_self, true_or, or_true, or_false, false_or, zbR_some, e2]
              rw [← fin]
              show _ = Ev _ _ _ _ _ (if t = 40 then zU (zU g 4 0 6 ((opn ws + 1 : Nat) : Int)) 4 0 5 ((brk ws + 1 : Nat) : Int) else zU g 4 0 6 ((opn ws + 1 : Nat) : Int))
              by_cases z : t = 40
              · rw [if_neg (by omega), if_pos z]
              · rw [if_pos z, if_neg z]
            rw [mid]
            simp only [e94_0, e94_1, e94_4_c0, e94_4_c1, e94_4_c2, e94_4_c3, e94_4_c4, e94_4_def, e94_40, e94_41, e94_42, e94_45, e94_46, e94_47, e94_49, e94_52, e94_53, e94_55, e94_58, e94_59, e94_60, e94_63, e94_66, e94_67, e94_68, e94_71, e94_72, e94_73, e94_74, e94_77, e94_78, e94_79, e94_80, e94_83, e94_84, e94_85, e94_88, e94_89, e94_92, e94_93, e94_94, e94_97, e94_98, e94_99, e94_102, e94_103, e94_106, e94_107, e94_108, e94_111, e94_114, e94_115, e94_116, e94_119, e94_120, e94_121, e94_122, e94_125, zU_app, zbI_some, zbV_some, Int.reduceToNat, Int.reduceLE, Int.reduceLT, Int.reduceEq, Nat.reduceEqDiff, and_self, and_true, true_and, and_false, false_and, if_true, if_false, ne_eq, not_true_eq_false, not_false_eq_true, reduceCtorEq, eq_self, true_or, or_true, or_false, false_or, zbR_some]
            by_cases z : t = 14
            · rw [if_pos z]
            · rw [if_neg z, if_neg (by omega)]
          · refine h.push (t := t) rfl rfl ?_ ?_ ?_ r5 (by rw [hop]; exact r6) rfl ?_ (fun k x q => ?_)
            · show g1 4 0 2 = 1
              rw [n1 _ _ _ (by omega)]; exact h2
            · show g1 4 0 3 = Sd
              rw [n1 _ _ _ (by omega)]; exact h3
            · show g1 4 0 4 = zbo C
              rw [n1 _ _ _ (by omega)]; exact h.2.2.1
            · show zU (zU g1 31 0 ws.length t) 4 0 8 _ 31 0 = _
              rw [zU_fn (by omega), zU_row]
              congr 1
              funext x
              exact n1 31 0 x (by omega)
            · show zU (zU g1 31 0 ws.length t) 4 0 8 _ k 2 x = _
              rw [zU_ne (by omega), zU_ne (by omega), n1 _ _ _ (by omega)]
      · rw [if_neg q1]
        obtain ⟨g1, r, e1, R1, f1⟩ := k_takeUnit (d + 2) t v h hw ho hlen hv
        refine ⟨g1, r, ?_, R1, f1⟩
        simp only [e94_0, e94_1, e94_4_c0, e94_4_c1, e94_4_c2, e94_4_c3, e94_4_c4, e94_4_def, e94_40, e94_41, e94_42, e94_45, e94_46, e94_47, e94_49, e94_52, e94_53, e94_55, e94_58, e94_59, e94_60, e94_63, e94_66, e94_67, e94_68, e94_71, e94_72, e94_73, e94_74, e94_77, e94_78, e94_79, e94_80, e94_83, e94_84, e94_85, e94_88, e94_89, e94_92, e94_93, e94_94, e94_97, e94_98, e94_99, e94_102, e94_103, e94_106, e94_107, e94_108, e94_111, e94_114, e94_115, e94_116, e94_119, e94_120, e94_121, e94_122, e94_125, zU_app, zbI_some, zbV_some, Int.reduceToNat, Int.reduceLE, Int.reduceLT, Int.reduceEq, Nat.reduceEqDiff, and_self, and_true, true_and, and_false, false_and, if_true, if_false, ne_eq, not_true_eq_false, not_false_eq_true, reduceCtorEq, eq_self, true_or, or_true, or_false, false_or, zbR_some, h2, e1]
        rw [if_neg (by omega), if_pos (by omega)]
    · rw [if_neg w1]
      by_cases w2 : W = 2
      · subst w2
        rw [if_pos rfl]
        obtain ⟨g1, r, e1, R1, f1⟩ := k_takeUnit (d + 2) t v h hw ho hlen hv
        refine ⟨g1, r, ?_, R1, f1⟩
        simp only [e94_0, e94_1, e94_4_c0, e94_4_c1, e94_4_c2, e94_4_c3, e94_4_c4, e94_4_def, e94_40, e94_41, e94_42, e94_45, e94_46, e94_47, e94_49, e94_52, e94_53, e94_55, e94_58, e94_59, e94_60, e94_63, e94_66, e94_67, e94_68, e94_71, e94_72, e94_73, e94_74, e94_77, e94_78, e94_79, e94_80, e94_83, e94_84, e94_85, e94_88, e94_89, e94_92, e94_93, e94_94, e94_97, e94_98, e94_99, e94_102, e94_103, e94_106, e94_107, e94_108, e94_111, e94_114, e94_115, e94_116, e94_119, e94_120, e94_121, e94_122, e94_125, zU_app, zbI_some, zbV_some, Int.reduceToNat, Int.reduceLE, Int.reduceLT, Int.reduceEq, Nat.reduceEqDiff, and_self, and_true, true_and, and_false, false_and, if_true, if_false, ne_eq, not_true_eq_false, not_false_eq_true, reduceCtorEq, eq_self, true_or, or_true, or_false, false_or, zbR_some, h2, e1]
      · rw [if_neg w2]
        by_cases w3 : W = 3
        · subst w3
          rw [if_pos rfl]
          by_cases q1 : t = 9
          · rw [if_pos q1]
            by_cases q2 : v = 0
            · rw [if_pos q2]
              refine ⟨g, 2, ?_, ⟨rfl, by decide⟩, Fr.rf⟩
              simp only [e94_0, e94_1, e94_4_c0, e94_4_c1, e94_4_c2, e94_4_c3, e94_4_c4, e94_4_def, e94_40, e94_41, e94_42, e94_45, e94_46, e94_47, e94_49, e94_52, e94_53, e94_55, e94_58, e94_59, e94_60, e94_63, e94_66, e94_67, e94_68, e94_71, e94_72, e94_73, e94_74, e94_77, e94_78, e94_79, e94_80, e94_83, e94_84, e94_85, e94_88, e94_89, e94_92, e94_93, e94_94, e94_97, e94_98, e94_99, e94_102, e94_103, e94_106, e94_107, e94_108, e94_111, e94_114, e94_115, e94_116, e94_119, e94_120, e94_121, e94_122, e94_125, zU_app, zbI_some, zbV_some, Int.reduceToNat, Int.reduceLE, Int.reduceLT, Int.reduceEq, Nat.reduceEqDiff, and_self, and_true, true_and, and_false, false_and, if_true, if_false, ne_eq, not_true_eq_false, not_false_eq_true, reduceCtorEq, eq_self, true_or, or_true, or_false, false_or, zbR_some, h2]
              rw [en100]
              simp only [e100_0, e100_1, e100_3, e100_6, e100_7, e100_8, e100_9, e100_12, e100_15, e100_18, e100_19, e100_22, e100_23, e100_24, e100_27, zU_app, zbI_some, zbV_some, Int.reduceToNat, Int.reduceLE, Int.reduceLT, Int.reduceEq, Nat.reduceEqDiff, and_self, and_true, true_and, and_false, false_and, if_true, if_false, ne_eq, not_true_eq_false, not_false_eq_true, reduceCtorEq, eq_self, true_or, or_true, or_false, false_or, zbR_some, hv q1]
              rw [if_pos q1, if_neg (fun z => z q2)]
              try simp only [zU_app, zbI_some, zbV_some, Int.reduceToNat, Int.reduceLE, Int.reduceLT, Int.reduceEq, Nat.reduceEqDiff, and_self, and_true, true_and, and_false, false_and, if_true, if_false, ne_eq, not_true_eq_false, not_false_eq_true, reduceCtorEq, eq_self, true_or, or_true, or_false, false_or, zbR_some, e94_0, e94_1, e94_4_c0, e94_4_c1, e94_4_c2, e94_4_c3, e94_4_c4, e94_4_def, e94_40, e94_41, e94_42, e94_45, e94_46, e94_47, e94_49, e94_52, e94_53, e94_55, e94_58, e94_59, e94_60, e94_63, e94_66, e94_67, e94_68, e94_71, e94_72, e94_73, e94_74, e94_77, e94_78, e94_79, e94_80, e94_83, e94_84, e94_85, e94_88, e94_89, e94_92, e94_93, e94_94, e94_97, e94_98, e94_99, e94_102, e94_103, e94_106, e94_107, e94_108, e94_111, e94_114, e94_115, e94_116, e94_119, e94_120, e94_121, e94_122, e94_125]
            · rw [if_neg q2]
              obtain ⟨g1, r, e1, R1, f1⟩ := k_takeUnit (d + 1) t v h hw ho hlen hv
              refine ⟨g1, r, ?_, R1, f1⟩
              simp only [e94_0, e94_1, e94_4_c0, e94_4_c1, e94_4_c2, e94_4_c3, e94_4_c4, e94_4_def, e94_40, e94_41, e94_42, e94_45, e94_46, e94_47, e94_49, e94_52, e94_53, e94_55, e94_58, e94_59, e94_60, e94_63, e94_66, e94_67, e94_68, e94_71, e94_72, e94_73, e94_74, e94_77, e94_78, e94_79, e94_80, e94_83, e94_84, e94_85, e94_88, e94_89, e94_92, e94_93, e94_94, e94_97, e94_98, e94_99, e94_102, e94_103, e94_106, e94_107, e94_108, e94_111, e94_114, e94_115, e94_116, e94_119, e94_120, e94_121, e94_122, e94_125, zU_app, zbI_some, zbV_some, Int.reduceToNat, Int.reduceLE, Int.reduceLT, Int.reduceEq, Nat.reduceEqDiff, and_self, and_true, true_and, and_false, false_and, if_true, if_false, ne_eq, not_true_eq_false, not_false_eq_true, reduceCtorEq, eq_self, true_or, or_true, or_false, false_or, zbR_some, h2]
              rw [en100]
              simp only [e100_0, e100_1, e100_3, e100_6, e100_7, e100_8, e100_9, e100_12, e100_15, e100_18, e100_19, e100_22, e100_23, e100_24, e100_27, zU_app, zbI_some, zbV_some, Int.reduceToNat, Int.reduceLE, Int.reduceLT, Int.reduceEq, Nat.reduceEqDiff, and_self, and_true, true_and, and_false, false_and, if_true, if_false, ne_eq, not_true_eq_false, not_false_eq_true, reduceCtorEq, eq_self, true_or, or_true, or_false, false_or, zbR_some, hv q1, e1]
              rw [if_pos q1, if_pos q2]
              try simp only [zU_app, zbI_some, zbV_some, Int.reduceToNat, Int.reduceLE, Int.reduceLT, Int.reduceEq, Nat.reduceEqDiff, and_self, and_true, true_and, and_false, false_and, if_true, if_false, ne_eq, not_true_eq_false, not_false_eq_true, reduceCtorEq, eq_self, true_or, or_true, or_false, false_or, zbR_some, e94_0, e94_1, e94_4_c0, e94_4_c1, e94_4_c2, e94_4_c3, e94_4_c4, e94_4_def, e94_40, e94_41, e94_42, e94_45, e94_46, e94_47, e94_49, e94_52, e94_53, e94_55, e94_58, e94_59, e94_60, e94_63, e94_66, e94_67, e94_68, e94_71, e94_72, e94_73, e94_74, e94_77, e94_78, e94_79, e94_80, e94_83, e94_84, e94_85, e94_88, e94_89, e94_92, e94_93, e94_94, e94_97, e94_98, e94_99, e94_102, e94_103, e94_106, e94_107, e94_108, e94_111, e94_114, e94_115, e94_116, e94_119, e94_120, e94_121, e94_122, e94_125]
          · rw [if_neg q1]
            refine ⟨g, 1, ?_, ⟨rfl, by decide⟩, Fr.rf⟩
            simp only [e94_0, e94_1, e94_4_c0, e94_4_c1, e94_4_c2, e94_4_c3, e94_4_c4, e94_4_def, e94_40, e94_41, e94_42, e94_45, e94_46, e94_47, e94_49, e94_52, e94_53, e94_55, e94_58, e94_59, e94_60, e94_63, e94_66, e94_67, e94_68, e94_71, e94_72, e94_73, e94_74, e94_77, e94_78, e94_79, e94_80, e94_83, e94_84, e94_85, e94_88, e94_89, e94_92, e94_93, e94_94, e94_97, e94_98, e94_99, e94_102, e94_103, e94_106, e94_107, e94_108, e94_111, e94_114, e94_115, e94_116, e94_119, e94_120, e94_121, e94_122, e94_125, zU_app, zbI_some, zbV_some, Int.reduceToNat, Int.reduceLE, Int.reduceLT, Int.reduceEq, Nat.reduceEqDiff, and_self, and_true, true_and, and_false, false_and, if_true, if_false, ne_eq, not_true_eq_false, not_false_eq_true, reduceCtorEq, eq_self, true_or, or_true, or_false, false_or, zbR_some, h2]
            rw [en100]
            simp only [e100_0, e100_1, e100_3, e100_6, e100_7, e100_8, e100_9, e100_12, e100_15, e100_18, e100_19, e100_22, e100_23, e100_24, e100_27, zU_app, zbI_some, zbV_some, Int.reduceToNat, Int.reduceLE, Int.reduceLT, Int.reduceEq, Nat.reduceEqDiff, and_self, and_true, true_and, and_false, false_and, if_true, if_false, ne_eq, not_true_eq_false, not_false_eq_true, reduceCtorEq, eq_self, true_or, or_true, or_false, false_or, zbR_some]
            rw [if_neg q1]
            try simp only [zU_app, zbI_some, zbV_some, Int.reduceToNat, Int.reduceLE, Int.reduceLT, Int.reduceEq, Nat.reduceEqDiff, and_self, and_true, true_and, and_false, false_and, if_true, if_false, ne_eq, not_true_eq_false, not_false_eq_true, reduceCtorEq, eq_self, true_or, or_true, or_false, false_or, zbR_some, e94_0, e94_1, e94_4_c0, e94_4_c1, e94_4_c2, e94_4_c3, e94_4_c4, e94_4_def, e94_40, e94_41, e94_42, e94_45, e94_46, e94_47, e94_49, e94_52, e94_53, e94_55, e94_58, e94_59, e94_60, e94_63, e94_66, e94_67, e94_68, e94_71, e94_72, e94_73, e94_74, e94_77, e94_78, e94_79, e94_80, e94_83, e94_84, e94_85, e94_88, e94_89, e94_92, e94_93, e94_94, e94_97, e94_98, e94_99, e94_102, e94_103, e94_106, e94_107, e94_108, e94_111, e94_114, e94_115, e94_116, e94_119, e94_120, e94_121, e94_122, e94_125]
        · rw [if_neg w3]
          by_cases w4 : W = 4
          · subst w4
            rw [if_pos rfl]
            by_cases q5 : 5 ≤ lev t
            · rw [if_pos q5]
              have lc := lev_cases t
              obtain ⟨g1, e1, R1, f1⟩ := k_joinBy d t (if t = 47 then 3 else 2) h hw ho hlen (by omega) (by omega) (by split <;> omega) (fun z => by split at z <;> cases z)
              refine ⟨g1, 0, ?_, R1, f1⟩
              simp only [e94_0, e94_1, e94_4_c0, e94_4_c1, e94_4_c2, e94_4_c3, e94_4_c4, e94_4_def, e94_40, e94_41, e94_42, e94_45, e94_46, e94_47, e94_49, e94_52, e94_53, e94_55, e94_58, e94_59, e94_60, e94_63, e94_66, e94_67, e94_68, e94_71, e94_72, e94_73, e94_74, e94_77, e94_78, e94_79, e94_80, e94_83, e94_84, e94_85, e94_88, e94_89, e94_92, e94_93, e94_94, e94_97, e94_98, e94_99, e94_102, e94_103, e94_106, e94_107, e94_108, e94_111, e94_114, e94_115, e94_116, e94_119, e94_120, e94_121, e94_122, e94_125, zU_app, zbI_some, zbV_some, Int.reduceToNat, Int.reduceLE, Int.reduceLT, Int.reduceEq, Nat.reduceEqDiff, and_self, and_true, true_and, and_false, false_and, if_true, if_false, ne_eq, not_true_eq_false, not_false_eq_true, reduceCtorEq, eq_self, true_or, or_true, or_false, false_or, zbR_some, h2, kl]
              rw [if_neg (by omega), en102]
              have mid : Ev (d + 3) 102 0 [some (.inr (4, 0)), some (.inl t)] [] g = some (some (.inl 0), g1) := by
                by_cases z : t = 47
                · rw [if_pos z] at e1
                  simp only [e102_0, e102_1, e102_2, e102_3, e102_5, e102_8, e102_9, e102_12, e102_13, e102_16, zU_app, zbI_some, zbV_some, Int.reduceToNat, Int.reduceLE, Int.reduceLT, Int.reduceEq, Nat.reduceEqDiff, and_self, and_true, true_and, and_false, false_and, if_true, if_false, ne_eq, not_true_eq_false, not_false_eq_true, reduceCtorEq, eq_self, true_or, or_true, or_false, false_or, zbR_some, e1]
                  rw [if_neg (fun y => y z)]
                · rw [if_neg z] at e1
                  simp only [e102_0, e102_1, e102_2, e102_3, e102_5, e102_8, e102_9, e102_12, e102_13, e102_16, zU_app, zbI_some, zbV_some, Int.reduceToNat, Int.reduceLE, Int.reduceLT, Int.reduceEq, Nat.reduceEqDiff, and_self, and_true, true_and, and_false, false_and, if_true, if_false, ne_eq, not_true_eq_false, not_false_eq_true, reduceCtorEq, eq_self, true_or, or_true, or_false, false_or, zbR_some, e1]
                  rw [if_pos z]
              rw [mid]
              simp only [e94_0, e94_1, e94_4_c0, e94_4_c1, e94_4_c2, e94_4_c3, e94_4_c4, e94_4_def, e94_40, e94_41, e94_42, e94_45, e94_46, e94_47, e94_49, e94_52, e94_53, e94_55, e94_58, e94_59, e94_60, e94_63, e94_66, e94_67, e94_68, e94_71, e94_72, e94_73, e94_74, e94_77, e94_78, e94_79, e94_80, e94_83, e94_84, e94_85, e94_88, e94_89, e94_92, e94_93, e94_94, e94_97, e94_98, e94_99, e94_102, e94_103, e94_106, e94_107, e94_108, e94_111, e94_114, e94_115, e94_116, e94_119, e94_120, e94_121, e94_122, e94_125, zU_app, zbI_some, zbV_some, Int.reduceToNat, Int.reduceLE, Int.reduceLT, Int.reduceEq, Nat.reduceEqDiff, and_self, and_true, true_and, and_false, false_and, if_true, if_false, ne_eq, not_true_eq_false, not_false_eq_true, reduceCtorEq, eq_self, true_or, or_true, or_false, false_or, zbR_some]
            · rw [if_neg q5]
              by_cases q6 : Sd = 1
              · subst q6
                rw [if_pos rfl]
                by_cases q7 : lev t = 4
                · rw [if_pos q7]
                  have lc := lev_cases t
                  obtain ⟨g1, e1, R1, f1⟩ := k_joinBy d t 2 (h.s (S' := 2)) hw ho hlen (by omega) (by omega) (by decide) (fun z => by cases z)
                  refine ⟨g1, 0, ?_, R1, (Fr.u (by unfold sLm; omega)).tr f1⟩
                  simp only [e94_0, e94_1, e94_4_c0, e94_4_c1, e94_4_c2, e94_4_c3, e94_4_c4, e94_4_def, e94_40, e94_41, e94_42, e94_45, e94_46, e94_47, e94_49, e94_52, e94_53, e94_55, e94_58, e94_59, e94_60, e94_63, e94_66, e94_67, e94_68, e94_71, e94_72, e94_73, e94_74, e94_77, e94_78, e94_79, e94_80, e94_83, e94_84, e94_85, e94_88, e94_89, e94_92, e94_93, e94_94, e94_97, e94_98, e94_99, e94_102, e94_103, e94_106, e94_107, e94_108, e94_111, e94_114, e94_115, e94_116, e94_119, e94_120, e94_121, e94_122, e94_125, zU_app, zbI_some, zbV_some, Int.reduceToNat, Int.reduceLE, Int.reduceLT, Int.reduceEq, Nat.reduceEqDiff, and_self, and_true, true_and, and_false, false_and, if_true, if_false, ne_eq, not_true_eq_false, not_false_eq_true, reduceCtorEq, eq_self, true_or, or_true, or_false, false_or, zbR_some, h2, h3, kl]
                  rw [if_pos (by omega), en105]
                  simp only [e105_0, e105_1, e105_4, e105_5, e105_8, e105_9, e105_10, e105_11, e105_12, e105_15, e105_16, e105_17, e105_18, e105_21, zU_app, zbI_some, zbV_some, Int.reduceToNat, Int.reduceLE, Int.reduceLT, Int.reduceEq, Nat.reduceEqDiff, and_self, and_true, true_and, and_false, false_and, if_true, if_false, ne_eq, not_true_eq_false, not_false_eq_true, reduceCtorEq, eq_self, true_or, or_true, or_false, false_or, zbR_some, kl, e1]
                  rw [if_pos (by omega)]
                  try simp only [zU_app, zbI_some, zbV_some, Int.reduceToNat, Int.reduceLE, Int.reduceLT, Int.reduceEq, Nat.reduceEqDiff, and_self, and_true, true_and, and_false, false_and, if_true, if_false, ne_eq, not_true_eq_false, not_false_eq_true, reduceCtorEq, eq_self, true_or, or_true, or_false, false_or, zbR_some, e94_0, e94_1, e94_4_c0, e94_4_c1, e94_4_c2, e94_4_c3, e94_4_c4, e94_4_def, e94_40, e94_41, e94_42, e94_45, e94_46, e94_47, e94_49, e94_52, e94_53, e94_55, e94_58, e94_59, e94_60, e94_63, e94_66, e94_67, e94_68, e94_71, e94_72, e94_73, e94_74, e94_77, e94_78, e94_79, e94_80, e94_83, e94_84, e94_85, e94_88, e94_89, e94_92, e94_93, e94_94, e94_97, e94_98, e94_99, e94_102, e94_103, e94_106, e94_107, e94_108, e94_111, e94_114, e94_115, e94_116, e94_119, e94_120, e94_121, e94_122, e94_125]
                · rw [if_neg q7]
                  refine ⟨g, 1, ?_, ⟨rfl, by decide⟩, Fr.rf⟩
                  simp only [e94_0, e94_1, e94_4_c0, e94_4_c1, e94_4_c2, e94_4_c3, e94_4_c4, e94_4_def, e94_40, e94_41, e94_42, e94_45, e94_46, e94_47, e94_49, e94_52, e94_53, e94_55, e94_58, e94_59, e94_60, e94_63, e94_66, e94_67, e94_68, e94_71, e94_72, e94_73, e94_74, e94_77, e94_78, e94_79, e94_80, e94_83, e94_84, e94_85, e94_88, e94_89, e94_92, e94_93, e94_94, e94_97, e94_98, e94_99, e94_102, e94_103, e94_106, e94_107, e94_108, e94_111, e94_114, e94_115, e94_116, e94_119, e94_120, e94_121, e94_122, e94_125, zU_app, zbI_some, zbV_some, Int.reduceToNat, Int.reduceLE, Int.reduceLT, Int.reduceEq, Nat.reduceEqDiff, and_self, and_true, true_and, and_false, false_and, if_true, if_false, ne_eq, not_true_eq_false, not_false_eq_true, reduceCtorEq, eq_self, true_or, or_true, or_false, false_or, zbR_some, h2, h3, kl]
                  rw [if_pos (by omega), en105]
                  simp only [e105_0, e105_1, e105_4, e105_5, e105_8, e105_9, e105_10, e105_11, e105_12, e105_15, e105_16, e105_17, e105_18, e105_21, zU_app, zbI_some, zbV_some, Int.reduceToNat, Int.reduceLE, Int.reduceLT, Int.reduceEq, Nat.reduceEqDiff, and_self, and_true, true_and, and_false, false_and, if_true, if_false, ne_eq, not_true_eq_false, not_false_eq_true, reduceCtorEq, eq_self, true_or, or_true, or_false, false_or, zbR_some, kl]
                  rw [if_neg (by omega)]
                  try simp only [zU_app, zbI_some, zbV_some, Int.reduceToNat, Int.reduceLE, Int.reduceLT, Int.reduceEq, Nat.reduceEqDiff, and_self, and_true, true_and, and_false, false_and, if_true, if_false, ne_eq, not_true_eq_false, not_false_eq_true, reduceCtorEq, eq_self, true_or, or_true, or_false, false_or, zbR_some, e94_0, e94_1, e94_4_c0, e94_4_c1, e94_4_c2, e94_4_c3, e94_4_c4, e94_4_def, e94_40, e94_41, e94_42, e94_45, e94_46, e94_47, e94_49, e94_52, e94_53, e94_55, e94_58, e94_59, e94_60, e94_63, e94_66, e94_67, e94_68, e94_71, e94_72, e94_73, e94_74, e94_77, e94_78, e94_79, e94_80, e94_83, e94_84, e94_85, e94_88, e94_89, e94_92, e94_93, e94_94, e94_97, e94_98, e94_99, e94_102, e94_103, e94_106, e94_107, e94_108, e94_111, e94_114, e94_115, e94_116, e94_119, e94_120, e94_121, e94_122, e94_125]
              · rw [if_neg q6]
                obtain ⟨g1, r, e1, R1, f1⟩ := k_takeJoin d t h hw ho hlen hn
                refine ⟨g1, r, ?_, R1, f1⟩
                simp only [e94_0, e94_1, e94_4_c0, e94_4_c1, e94_4_c2, e94_4_c3, e94_4_c4, e94_4_def, e94_40, e94_41, e94_42, e94_45, e94_46, e94_47, e94_49, e94_52, e94_53, e94_55, e94_58, e94_59, e94_60, e94_63, e94_66, e94_67, e94_68, e94_71, e94_72, e94_73, e94_74, e94_77, e94_78, e94_79, e94_80, e94_83, e94_84, e94_85, e94_88, e94_89, e94_92, e94_93, e94_94, e94_97, e94_98, e94_99, e94_102, e94_103, e94_106, e94_107, e94_108, e94_111, e94_114, e94_115, e94_116, e94_119, e94_120, e94_121, e94_122, e94_125, zU_app, zbI_some, zbV_some, Int.reduceToNat, Int.reduceLE, Int.reduceLT, Int.reduceEq, Nat.reduceEqDiff, and_self, and_true, true_and, and_false, false_and, if_true, if_false, ne_eq, not_true_eq_false, not_false_eq_true, reduceCtorEq, eq_self, true_or, or_true, or_false, false_or, zbR_some, h2, h3, kl, e1]
                rw [if_pos (by omega), if_pos q6]
          · rw [if_neg w4]
            obtain ⟨g1, r, e1, R1, f1⟩ := k_takeJoin d t h hw ho hlen hn
            have w5 : W = 5 := by omega
            subst w5
            refine ⟨g1, r, ?_, R1, f1⟩
            simp only [e94_0, e94_1, e94_40, e94_41, e94_42, e94_45, e94_46, e94_47, e94_49, e94_52, e94_53, e94_55, e94_58, e94_59, e94_60, e94_63, e94_66, e94_67, e94_68, e94_71, e94_72, e94_73, e94_74, e94_77, e94_78, e94_79, e94_80, e94_83, e94_84, e94_85, e94_88, e94_89, e94_92, e94_93, e94_94, e94_97, e94_98, e94_99, e94_102, e94_103, e94_106, e94_107, e94_108, e94_111, e94_114, e94_115, e94_116, e94_119, e94_120, e94_121, e94_122, e94_125, zU_app, zbI_some, zbV_some, Int.reduceToNat, Int.reduceLE, Int.reduceLT, Int.reduceEq, Nat.reduceEqDiff, and_self, and_true, true_and, and_false, false_and, if_true, if_false, ne_eq, not_true_eq_false, not_false_eq_true, reduceCtorEq, eq_self, true_or, or_true, or_false, false_or, zbR_some, h2]
            rw [e94_4_def _ _ _ _ (by omega)]
            simp only [e94_0, e94_1, e94_40, e94_41, e94_42, e94_45, e94_46, e94_47, e94_49, e94_52, e94_53, e94_55, e94_58, e94_59, e94_60, e94_63, e94_66, e94_67, e94_68, e94_71, e94_72, e94_73, e94_74, e94_77, e94_78, e94_79, e94_80, e94_83, e94_84, e94_85, e94_88, e94_89, e94_92, e94_93, e94_94, e94_97, e94_98, e94_99, e94_102, e94_103, e94_106, e94_107, e94_108, e94_111, e94_114, e94_115, e94_116, e94_119, e94_120, e94_121, e94_122, e94_125, zU_app, zbI_some, zbV_some, Int.reduceToNat, Int.reduceLE, Int.reduceLT, Int.reduceEq, Nat.reduceEqDiff, and_self, and_true, true_and, and_false, false_and, if_true, if_false, ne_eq, not_true_eq_false, not_false_eq_true, reduceCtorEq, eq_self, true_or, or_true, or_false, false_or, zbR_some, e1]
end TB
