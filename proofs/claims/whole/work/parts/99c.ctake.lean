/-! THE CLASS: the maker takes a token -/
def TkR (g : zG) (r : Int) (L : Nat) (res : Int ⊕ zPS) : Prop :=
  match res with
  | .inl f => r = f ∧ f ≠ 0
  | .inr S => r = 0 ∧ LmAt g S.1 S.2.1 S.2.2.1 S.2.2.2.1 S.2.2.2.2.1 S.2.2.2.2.2 ∧ PsI S.1 S.2.2.2.1 ∧ S.2.2.2.2.2.length + S.2.2.2.1.length ≤ L ∧ (0 ≤ S.1 ∧ S.1 ≤ 5)
theorem fl_brk {l : Nat} (hl : 1 ≤ l) : ∀ (ws cd : List Int), brk (fl l ws cd).1 = brk ws
  | [], cd => rfl
  | x :: ws, cd => by
    rw [fl]
    by_cases q : l ≤ lev x
    · have q40 : x ≠ 40 := by
        intro z
        rw [z] at q
        have e : lev 40 = 0 := by decide
        omega
      rw [if_pos q, fl_brk hl ws, brk, if_neg q40, Nat.add_zero]
    · rw [if_neg q]
section TA
variable {W Sd : Int} {C : Bool} {ws : List Int} {n : Nat} {cd : List Int} {g : zG}
theorem k_jw (d l : Nat) (hl : 1 ≤ l) (h : LmAt g W Sd C ws n cd) (hw : WsOk ws) (ho : opn ws ≤ 8) (hlen : cd.length + ws.length ≤ 400) : ∃ g', EvM (d + 1) 104 [.inr (4, 0), .inl (l : Int)] g = some (none, g') ∧ LmAt g' W Sd C (fl l ws cd).1 n (fl l ws cd).2 ∧ Fr sLm g g' := by
  have h29 := (ws_len hw ho).2
  obtain ⟨g1, e1, L1, f1⟩ := k_jwL d l hl ws cd ((ws.length : Int) - 1) W Sd C n g rfl hw h29 ho (by omega) h
  refine ⟨g1, ?_, L1, f1⟩
  rw [en104]
  simp only [e104_0, e104_1, e104_4, e104_5, e104_6, e104_8, e104_11, e104_12, e104_14, e104_17, e104_18, e104_21, e104_22, e104_23, e104_26, e104_27, e104_30, e104_31, e104_34, e104_35, e104_36, e104_38, e104_41, e104_42, e104_43, e104_46, e104_47, e104_48, e104_51, e104_52, e104_55, e104_56, e104_59, e104_60, e104_61, e104_62, e104_65, e104_66, e104_67, e104_70, e104_73, e104_76, zU_app, zbI_some, zbV_some, Int.reduceToNat, Int.reduceLE, Int.reduceLT, Int.reduceEq, Nat.reduceEqDiff, and_self, and_true, true_and, and_false, false_and, if_true, if_false, ne_eq, not_true_eq_false, not_false_eq_true, reduceCtorEq, eq_self, true_or, or_true, or_false, false_or, zbR_some, h.2.2.2.2.2.1]
  rw [zwr_id (by omega) (by omega)]
  exact e1
theorem LmAt.push {t : Int} (h : LmAt g W Sd C ws n cd) {b o : Int} (hb : b = (brk (t :: ws) : Int)) (hoo : o = (opn (t :: ws) : Int)) {W' Sd' : Int} {C' : Bool} {g' : zG} (h2 : g' 4 0 2 = W') (h3 : g' 4 0 3 = Sd') (h4 : g' 4 0 4 = zbo C') (h5 : g' 4 0 5 = b) (h6 : g' 4 0 6 = o) (h8 : g' 4 0 8 = ((ws.length + 1 : Nat) : Int)) (h31 : g' 31 0 = uW (g 31 0) ws.length t) (hf : ∀ k x, k = 3 ∨ k = 28 → g' k 2 x = g k 2 x) : LmAt g' W' Sd' C' (t :: ws) n cd := by
  refine ⟨h2, h3, h4, by rw [h5, hb], by rw [h6, hoo], by rw [h8, List.length_cons], ?_, h.2.2.2.2.2.2.2.fr hf⟩
  rw [h31]
  exact h.2.2.2.2.2.2.1.push
theorem k_await (d : Nat) (t : Int) (h8 : g 4 0 8 = (ws.length : Int)) (h40 : ws.length < 40) : EvM d 97 [.inr (4, 0), .inl t] g = some (none, zU (zU g 31 0 ws.length t) 4 0 8 ((ws.length + 1 : Nat) : Int)) := by
  rw [en97]
  simp (disch := omega) only [e97_0, e97_1, e97_4, e97_6, e97_9, e97_10, e97_13, e97_14, e97_17, e97_18, e97_19, e97_20, e97_21, e97_24, e97_25, e97_26, e97_29, zU_app, zbI_some, zbV_some, Int.reduceToNat, Int.reduceLE, Int.reduceLT, Int.reduceEq, Nat.reduceEqDiff, and_self, and_true, true_and, and_false, false_and, if_true, if_false, ne_eq, not_true_eq_false, not_false_eq_true, reduceCtorEq, eq_self, true_or, or_true, or_false, false_or, zbR_some, zwr_id, if_pos, if_neg, h8, Int.toNat_natCast]
  rfl
theorem k_joinBy (d : Nat) (t W' : Int) (h : LmAt g W Sd C ws n cd) (hw : WsOk ws) (ho : opn ws ≤ 8) (hlen : cd.length + ws.length < 400) (ht : 1 ≤ lev t) (h14 : t ≠ 14) (hW' : 1 ≤ W' ∧ W' ≤ 3) (h1 : W' = 1 → lev t ≤ 2) : ∃ g', EvM (d + 2) 103 [.inr (4, 0), .inl t, .inl W'] g = some (some (.inl 0), g') ∧ TkR g' 0 (cd.length + ws.length + 1) (tQb Sd C ws n cd t W') ∧ Fr sLm g g' := by
  obtain ⟨g1, e1, L1, f1⟩ := k_jw d (lev t) ht h hw ho (by omega)
  obtain ⟨a1, a2, a3, a4⟩ := fl_ok (lev t) ws cd hw
  have h29 := (ws_len a1 (by omega)).2
  have lc := lev_cases t
  have e2 := k_await (d + 1) t L1.2.2.2.2.2.1 (by omega)
  let g2 := zU (zU (zU g1 31 0 (fl (lev t) ws cd).1.length t) 4 0 8 (((fl (lev t) ws cd).1.length + 1 : Nat) : Int)) 4 0 2 W'
  refine ⟨g2, ?_, ⟨rfl, ?_, ?_, ?_, by show 0 ≤ W' ∧ W' ≤ 5; omega⟩, ((f1.tr (Fr.u (by unfold sLm; omega))).tr (Fr.u (by unfold sLm; omega))).tr (Fr.u (by unfold sLm; omega))⟩
  · rw [en103]
    simp only [e103_0, e103_1, e103_2, e103_5, e103_8, e103_9, e103_10, e103_13, e103_14, e103_15, e103_18, e103_19, zU_app, zbI_some, zbV_some, Int.reduceToNat, Int.reduceLE, Int.reduceLT, Int.reduceEq, Nat.reduceEqDiff, and_self, and_true, true_and, and_false, false_and, if_true, if_false, ne_eq, not_true_eq_false, not_false_eq_true, reduceCtorEq, eq_self, true_or, or_true, or_false, false_or, zbR_some, k_level, e1, e2]
    rfl
  · refine L1.push (t := t) rfl rfl rfl L1.2.1 L1.2.2.1 ?_ ?_ rfl ?_ (fun k x q => ?_)
    · show g1 4 0 5 = _
      rw [L1.2.2.2.1, brk, if_neg (by omega), Nat.add_zero]
    · show g1 4 0 6 = _
      rw [L1.2.2.2.2.1, opn, if_neg (by omega), Nat.add_zero]
    · show zU (zU (zU g1 31 0 (fl (lev t) ws cd).1.length t) 4 0 8 _) 4 0 2 W' 31 0 = _
      rw [zU_fn (by omega), zU_fn (by omega), zU_row]
    · show zU (zU (zU g1 31 0 (fl (lev t) ws cd).1.length t) 4 0 8 _) 4 0 2 W' k 2 x = _
      rw [zU_ne (by omega), zU_ne (by omega), zU_ne (by omega)]
  · refine PsI.push a1 (by omega) ?_ (by omega) (fun q => by have := h1 q; omega)
    rcases a4 with q | q
    · exact Or.inl q
    · exact Or.inr ⟨q, ht⟩
  · show (fl (lev t) ws cd).2.length + (t :: (fl (lev t) ws cd).1).length ≤ _
    rw [List.length_cons]
    omega
theorem LmAt.w {W' : Int} (h : LmAt g W Sd C ws n cd) : LmAt (zU g 4 0 2 W') W' Sd C ws n cd := ⟨rfl, h.2.1, h.2.2.1, h.2.2.2.1, h.2.2.2.2.1, h.2.2.2.2.2.1, h.2.2.2.2.2.2.1, h.2.2.2.2.2.2.2⟩
theorem LmAt.s {S' : Int} (h : LmAt g W Sd C ws n cd) : LmAt (zU g 4 0 3 S') W S' C ws n cd := ⟨h.1, rfl, h.2.2.1, h.2.2.2.1, h.2.2.2.2.1, h.2.2.2.2.2.1, h.2.2.2.2.2.2.1, h.2.2.2.2.2.2.2⟩
theorem LmAt.c {C' : Bool} {x : Int} (h : LmAt g W Sd C ws n cd) (hx : x = zbo C') : LmAt (zU g 4 0 4 x) W Sd C' ws n cd := ⟨h.1, h.2.1, hx, h.2.2.2.1, h.2.2.2.2.1, h.2.2.2.2.2.1, h.2.2.2.2.2.2.1, h.2.2.2.2.2.2.2⟩
theorem k_takeUnit (d : Nat) (t v : Int) (h : LmAt g W Sd C ws n cd) (hw : WsOk ws) (ho : opn ws ≤ 8) (hlen : cd.length + ws.length < 400) (hv : t = 9 → g 9 0 2 = v) : ∃ g' r, EvM (d + 1) 98 [.inr (4, 0), .inl t] g = some (some (.inl r), g') ∧ TkR g' r (cd.length + ws.length + 1) (tQu Sd C ws n cd t v) ∧ Fr sLm g g' := by
  unfold tQu
  have em : ∀ x, ∃ g1, EvM d 99 [.inr (3, 2), .inl x] g = some (none, g1) ∧ LmAt (zU g1 4 0 2 4) 4 Sd C ws n (cd ++ [x]) ∧ Fr sLm g (zU g1 4 0 2 4) := fun x => by
    obtain ⟨g1, e1, E1, f1⟩ := k_emit d n x cd g h.2.2.2.2.2.2.2 (by omega)
    exact ⟨g1, e1, (h.em E1 (fun k a x q => f1 k a x (by unfold sEm; omega))).w, (f1.up (fun k a x q => by unfold sEm at q; unfold sLm; omega)).tr (Fr.u (by unfold sLm; omega))⟩
  by_cases h9 : t = 9
  · rw [if_pos h9]
    obtain ⟨g1, e1, L1, f1⟩ := em v
    refine ⟨zU g1 4 0 2 4, 0, ?_, ⟨rfl, L1, ⟨hw, ho, fun q => by cases q⟩, by show (cd ++ [v]).length + ws.length ≤ _; rw [List.length_append, List.length_singleton]; omega, by show (0 : Int) ≤ 4 ∧ (4 : Int) ≤ 5; decide⟩, f1⟩
    rw [en98]
    simp only [e98_0, e98_1, e98_3, e98_6, e98_7, e98_10, e98_11, e98_14, e98_17, e98_20, e98_23, e98_24, e98_25, e98_28, e98_29, e98_31, e98_34, e98_35, e98_38, e98_39, e98_40, e98_43, e98_46, e98_47, e98_48, e98_49, e98_50, e98_53, e98_54, zU_app, zbI_some, zbV_some, Int.reduceToNat, Int.reduceLE, Int.reduceLT, Int.reduceEq, Nat.reduceEqDiff, and_self, and_true, true_and, and_false, false_and, if_true, if_false, ne_eq, not_true_eq_false, not_false_eq_true, reduceCtorEq, eq_self, true_or, or_true, or_false, false_or, zbR_some, hv h9, e1]
    rw [if_neg (by omega)]
  · rw [if_neg h9]
    by_cases h7 : 1 ≤ t ∧ t ≤ 7
    · rw [if_pos h7]
      obtain ⟨g1, e1, L1, f1⟩ := em (-t)
      refine ⟨zU g1 4 0 2 4, 0, ?_, ⟨rfl, L1, ⟨hw, ho, fun q => by cases q⟩, by show (cd ++ [-t]).length + ws.length ≤ _; rw [List.length_append, List.length_singleton]; omega, by show (0 : Int) ≤ 4 ∧ (4 : Int) ≤ 5; decide⟩, f1⟩
      rw [en98]
      simp (disch := omega) only [e98_0, e98_1, e98_3, e98_6, e98_7, e98_10, e98_11, e98_14, e98_17, e98_20, e98_23, e98_24, e98_25, e98_28, e98_29, e98_31, e98_34, e98_35, e98_38, e98_39, e98_40, e98_43, e98_46, e98_47, e98_48, e98_49, e98_50, e98_53, e98_54, zU_app, zbI_some, zbV_some, Int.reduceToNat, Int.reduceLE, Int.reduceLT, Int.reduceEq, Nat.reduceEqDiff, and_self, and_true, true_and, and_false, false_and, if_true, if_false, ne_eq, not_true_eq_false, not_false_eq_true, reduceCtorEq, eq_self, true_or, or_true, or_false, false_or, zbR_some, zwr_id, if_pos, if_neg, e1]
    · rw [if_neg h7]
      refine ⟨g, 1, ?_, ⟨rfl, by decide⟩, Fr.rf⟩
      rw [en98]
      simp only [e98_0, e98_1, e98_3, e98_6, e98_7, e98_10, e98_11, e98_14, e98_17, e98_20, e98_23, e98_24, e98_25, e98_28, e98_29, e98_31, e98_34, e98_35, e98_38, e98_39, e98_40, e98_43, e98_46, e98_47, e98_48, e98_49, e98_50, e98_53, e98_54, zU_app, zbI_some, zbV_some, Int.reduceToNat, Int.reduceLE, Int.reduceLT, Int.reduceEq, Nat.reduceEqDiff, and_self, and_true, true_and, and_false, false_and, if_true, if_false, ne_eq, not_true_eq_false, not_false_eq_true, reduceCtorEq, eq_self, true_or, or_true, or_false, false_or, zbR_some]
      rw [if_pos h9]
      by_cases q : t < 1
      · rw [if_pos q]
      · rw [if_neg q, if_pos (by omega)]
theorem k_endLine (d : Nat) (h : LmAt g W Sd C ws n cd) (hw : WsOk ws) (ho : opn ws ≤ 8) (hlen : cd.length + ws.length < 400) (hb : brk ws = 0) (hn : n < 1000) : ∃ g', EvM (d + 2) 107 [.inr (4, 0)] g = some (some (.inl 0), g') ∧ TkR g' 0 (cd.length + ws.length + 1) (.inr (0, Sd, C, (fl 1 ws cd).1, n + 1, (fl 1 ws cd).2 ++ [if C then -16 else -15])) ∧ Fr sLm g g' := by
  obtain ⟨g1, e1, L1, f1⟩ := k_jw d 1 (by decide) h hw ho (by omega)
  obtain ⟨a1, a2, a3, a4⟩ := fl_ok 1 ws cd hw
  have e1 : EvM (d + 1) 104 [.inr (4, 0), .inl 1] g = some (none, g1) := e1
  obtain ⟨g2, e2, E2, f2⟩ := k_emit (d + 1) n (if C then -16 else -15) (fl 1 ws cd).2 g1 L1.2.2.2.2.2.2.2 (by omega)
  have L2 : LmAt g2 W Sd C (fl 1 ws cd).1 n ((fl 1 ws cd).2 ++ [if C then -16 else -15]) := L1.em E2 (fun k a x q => f2 k a x (by unfold sEm; omega))
  obtain ⟨b1, b2, b3, b4, b5⟩ := E2
  have L3 : LmAt (zU g2 3 2 0 ((n + 1 : Nat) : Int)) W Sd C (fl 1 ws cd).1 (n + 1) ((fl 1 ws cd).2 ++ [if C then -16 else -15]) := L2.em ⟨rfl, b2, b3, b4, b5⟩ (fun k a x q => zU_ne (by omega))
  refine ⟨zU (zU g2 3 2 0 ((n + 1 : Nat) : Int)) 4 0 2 0, ?_, ⟨rfl, L3.w, ⟨a1, by show opn (fl 1 ws cd).1 ≤ 8; omega, fun q => by cases q⟩, ?_, by show (0 : Int) ≤ 0 ∧ (0 : Int) ≤ 5; decide⟩, ((f1.tr (f2.up (fun k a x q => by unfold sEm at q; unfold sLm; omega))).tr (Fr.u (by unfold sLm; omega))).tr (Fr.u (by unfold sLm; omega))⟩
  · have zz : zwr ((n : Int) + 1) = ((n + 1 : Nat) : Int) := by rw [zwr_id (by omega) (by omega)]; omega
    rw [en107]
    cases C with
    | false => simp only [e107_0, e107_1, e107_2, e107_5, e107_6, e107_9, e107_10, e107_13, e107_16, e107_18, e107_21, e107_23, e107_26, e107_27, e107_30, e107_31, e107_34, e107_35, e107_36, e107_39, e107_40, e107_41, e107_44, e107_45, zU_app, zbI_some, zbV_some, Int.reduceToNat, Int.reduceLE, Int.reduceLT, Int.reduceEq, Nat.reduceEqDiff, and_self, and_true, true_and, and_false, false_and, if_true, if_false, ne_eq, not_true_eq_false, not_false_eq_true, reduceCtorEq, eq_self, true_or, or_true, or_false, false_or, zbR_some, e1, L1.2.2.1, zbo_if, Bool.false_eq_true, e2, b1, zz]
               simp only [if_false, Bool.false_eq_true, ite_false] at e2
               simp only [e107_0, e107_1, e107_2, e107_5, e107_6, e107_9, e107_10, e107_13, e107_16, e107_18, e107_21, e107_23, e107_26, e107_27, e107_30, e107_31, e107_34, e107_35, e107_36, e107_39, e107_40, e107_41, e107_44, e107_45, zU_app, zbI_some, zbV_some, Int.reduceToNat, Int.reduceLE, Int.reduceLT, Int.reduceEq, Nat.reduceEqDiff, and_self, and_true, true_and, and_false, false_and, if_true, if_false, ne_eq, not_true_eq_false, not_false_eq_true, reduceCtorEq, eq_self, true_or, or_true, or_false, false_or, zbR_some, e2, b1, zz]
    | true => simp only [e107_0, e107_1, e107_2, e107_5, e107_6, e107_9, e107_10, e107_13, e107_16, e107_18, e107_21, e107_23, e107_26, e107_27, e107_30, e107_31, e107_34, e107_35, e107_36, e107_39, e107_40, e107_41, e107_44, e107_45, zU_app, zbI_some, zbV_some, Int.reduceToNat, Int.reduceLE, Int.reduceLT, Int.reduceEq, Nat.reduceEqDiff, and_self, and_true, true_and, and_false, false_and, if_true, if_false, ne_eq, not_true_eq_false, not_false_eq_true, reduceCtorEq, eq_self, true_or, or_true, or_false, false_or, zbR_some, e1, L1.2.2.1, zbo_if, b1, zz]
              simp only [if_true] at e2
              simp only [e107_0, e107_1, e107_2, e107_5, e107_6, e107_9, e107_10, e107_13, e107_16, e107_18, e107_21, e107_23, e107_26, e107_27, e107_30, e107_31, e107_34, e107_35, e107_36, e107_39, e107_40, e107_41, e107_44, e107_45, zU_app, zbI_some, zbV_some, Int.reduceToNat, Int.reduceLE, Int.reduceLT, Int.reduceEq, Nat.reduceEqDiff, and_self, and_true, true_and, and_false, false_and, if_true, if_false, ne_eq, not_true_eq_false, not_false_eq_true, reduceCtorEq, eq_self, true_or, or_true, or_false, false_or, zbR_some, e2, b1, zz]
  · show ((fl 1 ws cd).2 ++ [if C then -16 else -15]).length + (fl 1 ws cd).1.length ≤ _
    rw [List.length_append, List.length_singleton]
    omega
end TA
