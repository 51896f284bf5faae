/-! THE CLASS: odds -/
theorem okB_le {o : Int × Int} {n m : Nat} (h : okB o n = some m) (hn : n ≤ 40) : m ≤ 40 := by
  unfold okB at h
  by_cases h0 : o.1 = 0
  · rw [if_pos h0] at h
    obtain ⟨q, h⟩ := zif h
    cases h; omega
  · rw [if_neg h0] at h
    by_cases h1 : 1 ≤ o.1 ∧ o.1 ≤ 7
    · rw [if_pos h1] at h
      obtain ⟨q, h⟩ := zif h
      cases h; omega
    · rw [if_neg h1] at h
      by_cases h2 : o.1 = 16
      · rw [if_pos h2] at h
        obtain ⟨q, h⟩ := zif h
        cases h; omega
      · rw [if_neg h2] at h
        by_cases h3 : o.1 = 20
        · rw [if_pos h3] at h
          obtain ⟨q, h⟩ := zif h
          cases h; omega
        · rw [if_neg h3] at h
          obtain ⟨-, h⟩ := zif h
          obtain ⟨-, h⟩ := zif h
          cases h; omega
theorem k_flL (d j N : Nat) (f : Nat → Int) : ∀ (s : List (Int × Int)) (i : Nat) (st : List Int) (g : zG) (a2 a3 a4 : Option zV) (m : Nat), SkAt g j st → st.length ≤ 40 → FaAt g j f → dpB s st.length = some m → CdAt g j i N (trL s) → ∃ g' b2, Ev (d + 2) 145 2 [some (.inr (3, j)), some (.inl (i : Int)), a2, a3, a4] [] g = Ev (d + 2) 145 2 [some (.inr (3, j)), some (.inl ((i + (trL s).length : Nat) : Int)), b2, a3, a4] [] g' ∧ SkAt g' j (exO f s st) ∧ Fr (sSk j) g g' := by
  intro s
  induction s with
  | nil =>
    intro i st g a2 a3 a4 m hs hl hf hm hc
    exact ⟨g, a2, rfl, hs, Fr.rf⟩
  | cons o s ih =>
    intro i st g a2 a3 a4 m hs hl hf hm hc
    rw [dpB] at hm
    cases hk : okB o st.length with
    | none => rw [hk] at hm; cases hm
    | some q =>
      rw [hk] at hm
      have hm : dpB s q = some m := hm
      have et : trL (o :: s) = tr o ++ trL s := rfl
      rw [et] at hc ⊢
      obtain ⟨hc1, hc2⟩ := hc.ap
      obtain ⟨g1, b1, e1, s1, f1⟩ := k_fl1 d j i N q f o st g a2 a3 a4 hs hl hf hk hc1
      have hlen := opE_len (f := f) (okB_okO hk)
      obtain ⟨g2, b2, e2, s2, f2⟩ := ih (i + (tr o).length) (opE f o st) g1 b1 a3 a4 m s1 (by rw [hlen]; exact okB_le hk hl) (hf.fr f1) (by rw [hlen]; exact hm) (hc2.fr f1)
      refine ⟨g2, b2, ?_, s2, f1.tr f2⟩
      rw [e1, e2, List.length_append, Nat.add_assoc]
theorem k_f15 (d j i N : Nat) (x : Int) (a2 a3 a4 : Option zV) (g : zG) (hs : SkAt g j [x]) (hc : CdAt g j i N [-15]) : ∃ g', Ev (d + 2) 145 2 [some (.inr (3, j)), some (.inl (i : Int)), a2, a3, a4] [] g = some (some (.inl x), g') ∧ Fr (sSk j) g g' := by
  obtain ⟨c1, c2, -⟩ := hc.hd
  have c3 := hc.1
  have c4 := hc.2.1
  obtain ⟨g1, e1, s1, f1⟩ := k_pop (d + 1) j hs (by simp)
  refine ⟨g1, ?_, f1⟩
  rw [e145_2]
  simp (disch := omega) only [e145_0, e145_1, e145_3, e145_4, e145_7, e145_10, e145_11, e145_14, e145_17, e145_18, e145_21, e145_22, e145_23, e145_24, e145_25, e145_27, e145_30, e145_31, e145_34, e145_35, e145_36, e145_38, e145_41, e145_42, e145_45, e145_48, e145_49, e145_52, e145_53, e145_54, e145_55, e145_58, e145_60, e145_61, e145_64, e145_66, e145_67, e145_70, e145_71, e145_72, e145_75, e145_78, e145_81, e145_82, zU_app, zbI_some, zbV_some, Int.reduceToNat, Int.reduceLE, Int.reduceLT, Int.reduceEq, Nat.reduceEqDiff, and_self, and_true, true_and, and_false, false_and, if_true, if_false, ne_eq, not_true_eq_false, not_false_eq_true, reduceCtorEq, eq_self, true_or, or_true, or_false, false_or, zbR_some, zwr_id, if_pos, if_neg, c3, Int.toNat_natCast, c2, e1]
theorem k_f16 (d j i N : Nat) (x y : Int) (a2 a3 a4 : Option zV) (g : zG) (hs : SkAt g j [y, x]) (hc : CdAt g j i N [-16]) : ∃ g' b2 b3 b4, Ev (d + 2) 145 2 [some (.inr (3, j)), some (.inl (i : Int)), a2, a3, a4] [] g = (if y = 0 then Ev (d + 2) 145 2 [some (.inr (3, j)), some (.inl ((i + 1 : Nat) : Int)), b2, b3, b4] [] g' else some (some (.inl x), g')) ∧ SkAt g' j [] ∧ Fr (sSk j) g g' := by
  obtain ⟨c1, c2, -⟩ := hc.hd
  have c3 := hc.1
  have c4 := hc.2.1
  obtain ⟨g1, e1, s1, f1⟩ := k_pop (d + 1) j hs (by simp)
  obtain ⟨g2, e2, s2, f2⟩ := k_pop (d + 1) j s1 (by simp)
  refine ⟨g2, some (.inl (-16)), some (.inl (if y = 0 then 0 else 1)), some (.inl x), ?_, s2, f1.tr f2⟩
  rw [e145_2]
  simp (disch := omega) only [e145_0, e145_1, e145_3, e145_4, e145_7, e145_10, e145_11, e145_14, e145_17, e145_18, e145_21, e145_22, e145_23, e145_24, e145_25, e145_27, e145_30, e145_31, e145_34, e145_35, e145_36, e145_38, e145_41, e145_42, e145_45, e145_48, e145_49, e145_52, e145_53, e145_54, e145_55, e145_58, e145_60, e145_61, e145_64, e145_66, e145_67, e145_70, e145_71, e145_72, e145_75, e145_78, e145_81, e145_82, zU_app, zbI_some, zbV_some, Int.reduceToNat, Int.reduceLE, Int.reduceLT, Int.reduceEq, Nat.reduceEqDiff, and_self, and_true, true_and, and_false, false_and, if_true, if_false, ne_eq, not_true_eq_false, not_false_eq_true, reduceCtorEq, eq_self, true_or, or_true, or_false, false_or, zbR_some, zwr_id, if_pos, if_neg, c3, Int.toNat_natCast, c2, e1, e2]
  by_cases h : y = 0
  · simp only [h, if_true]
    rfl
  · simp only [h, if_false]
theorem k_lines (d j N : Nat) (f : Nat → Int) : ∀ (ls : List (List (Int × Int) × List (Int × Int))) (i : Nat) (g : zG) (a2 a3 a4 : Option zV), (∀ l, l ∈ ls → LiOk l) → SkAt g j [] → FaAt g j f → CdAt g j i N (cdL ls) → i + (cdL ls).length = N → ∃ g', Ev (d + 2) 145 2 [some (.inr (3, j)), some (.inl (i : Int)), a2, a3, a4] [] g = some (some (.inl (flC f ls)), g') ∧ Fr (sSk j) g g' := by
  intro ls
  induction ls with
  | nil =>
    intro i g a2 a3 a4 hl hs hf hc hN
    refine ⟨g, ?_, Fr.rf⟩
    have c3 := hc.1
    have hN : i = N := hN
    rw [e145_2]
    simp (disch := omega) only [e145_0, e145_1, e145_3, e145_4, e145_7, e145_10, e145_11, e145_14, e145_17, e145_18, e145_21, e145_22, e145_23, e145_24, e145_25, e145_27, e145_30, e145_31, e145_34, e145_35, e145_36, e145_38, e145_41, e145_42, e145_45, e145_48, e145_49, e145_52, e145_53, e145_54, e145_55, e145_58, e145_60, e145_61, e145_64, e145_66, e145_67, e145_70, e145_71, e145_72, e145_75, e145_78, e145_81, e145_82, zU_app, zbI_some, zbV_some, Int.reduceToNat, Int.reduceLE, Int.reduceLT, Int.reduceEq, Nat.reduceEqDiff, and_self, and_true, true_and, and_false, false_and, if_true, if_false, ne_eq, not_true_eq_false, not_false_eq_true, reduceCtorEq, eq_self, true_or, or_true, or_false, false_or, zbR_some, zwr_id, if_pos, if_neg, c3]
    rfl
  | cons l ls ih =>
    intro i g a2 a3 a4 hl hs hf hc hN
    have et : cdL (l :: ls) = lnC l ++ cdL ls := rfl
    rw [et] at hc hN
    obtain ⟨hc1, hc2⟩ := hc.ap
    unfold lnC at hc1
    obtain ⟨hc3, hc4⟩ := hc1.ap
    obtain ⟨hc5, hc6⟩ := hc3.ap
    obtain ⟨p1, p2⟩ := hl l List.mem_cons_self
    obtain ⟨x, hx⟩ := p1.2 f
    have hx0 := hx []
    have ex : evO f l.1 = x := by unfold evO; rw [hx0]; rfl
    obtain ⟨g1, b1, e1, s1, f1⟩ := k_flL d j N f l.1 i [] g a2 a3 a4 1 hs (by decide) hf (p1.1 0 (by decide)) hc5
    rw [hx0] at s1
    rw [flC, ex]
    by_cases hz : l.2.length = 0
    · have hz' : l.2 = [] := List.length_eq_zero_iff.mp hz
      rw [if_pos hz] at hc4
      rw [hz'] at hc4
      have hc7 : CdAt g j (i + (trL l.1).length) N [-15] := by
        have q : trL l.1 ++ trL [] = trL l.1 := List.append_nil _
        rw [q] at hc4
        exact hc4
      obtain ⟨g2, e2, f2⟩ := k_f15 d j _ N x b1 a3 a4 g1 s1 (hc7.fr f1)
      exact ⟨g2, by rw [e1, e2, if_pos (Or.inl hz)], f1.tr f2⟩
    · have hb : Be 22 l.2 := p2.resolve_left (fun q => hz (by rw [q]; rfl))
      rw [if_neg hz] at hc4
      obtain ⟨y, hy01, hy⟩ := hb.2 f
      have ey : evO f l.2 = y := by unfold evO; rw [hy []]; rfl
      obtain ⟨g2, b2, e2, s2, f2⟩ := k_flL d j N f l.2 (i + (trL l.1).length) [x] g1 b1 a3 a4 2 s1 (by simp) (hf.fr f1) (hb.1 1 (by decide)) (hc6.fr f1)
      rw [hy [x]] at s2
      rw [List.length_append, ← Nat.add_assoc] at hc4
      obtain ⟨g3, d2, d3, d4, e3, s3, f3⟩ := k_f16 d j _ N x y b2 a3 a4 g2 s2 ((hc4.fr f1).fr f2)
      have ei : i + (trL l.1).length + (trL l.2).length + 1 = i + (lnC l).length := by
        unfold lnC
        simp only [List.length_append, List.length_singleton]
        omega
      rw [ei] at e3
      rw [ey]
      rcases hy01 with q | q
      · subst q
        rw [if_pos rfl] at e3
        have f123 := (f1.tr f2).tr f3
        obtain ⟨g4, e4, f4⟩ := ih (i + (lnC l).length) g3 d2 d3 d4 (fun z hz => hl z (List.mem_cons_of_mem _ hz)) s3 (hf.fr f123) (hc2.fr f123) (by rw [List.length_append] at hN; omega)
        refine ⟨g4, ?_, f123.tr f4⟩
        rw [e1, e2, e3, if_neg (by rintro (q | q); exact hz q; cases q), ← e4]
      · subst q
        rw [if_neg (by decide)] at e3
        exact ⟨g3, by rw [e1, e2, e3, if_pos (Or.inr rfl)], (f1.tr f2).tr f3⟩
def fc7 (x1 x2 x3 x4 x5 x6 x7 : Int) : Nat → Int := fun s => if s = 1 then x1 else if s = 2 then x2 else if s = 3 then x3 else if s = 4 then x4 else if s = 5 then x5 else if s = 6 then x6 else x7
def LcAt (g : zG) (j : Nat) (ls : List (List (Int × Int) × List (Int × Int))) : Prop := g 3 j 0 = (ls.length : Int) ∧ CdAt g j 0 (cdL ls).length (cdL ls) ∧ (g 3 j 1 = 0 ∨ g 3 j 1 = 1) ∧ (g 3 j 1 = 1 ↔ ask ls)
def sLw (j : Nat) : Nat → Nat → Nat → Prop := fun k a i => (k = 29 ∧ a = j) ∨ sSk j k a i
theorem clp_j (x : Int) : (if 0 < (if x < 1000 then x else 1000) then (if x < 1000 then x else 1000) else (0 : Int)) = clp x := by
  unfold clp
  by_cases q1 : x < 0
  · simp (disch := omega) only [if_pos, if_neg]
  · by_cases q2 : 1000 < x
    · simp (disch := omega) only [if_pos, if_neg]
    · by_cases q3 : x = 1000
      · simp (disch := omega) only [if_pos, if_neg]; omega
      · by_cases q4 : x = 0
        · simp (disch := omega) only [if_pos, if_neg]; omega
        · simp (disch := omega) only [if_pos, if_neg]
theorem k_lodds (d j : Nat) {ls : List (List (Int × Int) × List (Int × Int))} (x1 x2 x3 x4 x5 x6 x7 : Int) (g : zG) (hL : LcAt g j ls) (hO : LsOk ls) : ∃ g', EvM (d + 3) 144 [.inr (3, j), .inl x1, .inl x2, .inl x3, .inl x4, .inl x5, .inl x6, .inl x7] g = some (some (.inl (clp (flC (fc7 x1 x2 x3 x4 x5 x6 x7) ls))), g') ∧ Fr (sLw j) g g' := by
  let g8 := zU (zU (zU (zU (zU (zU (zU (zU g 29 j 1 x1) 29 j 2 x2) 29 j 3 x3) 29 j 4 x4) 29 j 5 x5) 29 j 6 x6) 29 j 7 x7) 3 j 6 0
  have f8 : Fr (sLw j) g g8 := ((((((((Fr.u (Or.inl ⟨rfl, rfl⟩)).tr (Fr.u (Or.inl ⟨rfl, rfl⟩))).tr (Fr.u (Or.inl ⟨rfl, rfl⟩))).tr (Fr.u (Or.inl ⟨rfl, rfl⟩))).tr (Fr.u (Or.inl ⟨rfl, rfl⟩))).tr (Fr.u (Or.inl ⟨rfl, rfl⟩))).tr (Fr.u (Or.inl ⟨rfl, rfl⟩))).tr (Fr.u (Or.inr (Or.inr ⟨rfl, rfl, rfl⟩))))
  obtain ⟨l0, l1, l2, l3⟩ := hL
  have hc8 : CdAt g8 j 0 (cdL ls).length (cdL ls) := ⟨(f8 3 j 2 (by unfold sLw sSk; omega)).trans l1.1, l1.2.1, l1.2.2.1, fun q hq => (f8 28 j _ (by unfold sLw sSk; omega)).trans (l1.2.2.2 q hq)⟩
  have hs8 : SkAt g8 j [] := ⟨zU_eq _ _ _ _ _, fun k hk => by simp at hk⟩
  have hf8 : FaAt g8 j (fc7 x1 x2 x3 x4 x5 x6 x7) := by
    intro s h1 h2
    rcases (show s = 1 ∨ s = 2 ∨ s = 3 ∨ s = 4 ∨ s = 5 ∨ s = 6 ∨ s = 7 by omega) with rfl | rfl | rfl | rfl | rfl | rfl | rfl <;> simp [g8, zU_app, fc7]
  obtain ⟨g9, e9, f9⟩ := k_lines d j (cdL ls).length (fc7 x1 x2 x3 x4 x5 x6 x7) ls 0 g8 none none none hO.1 hs8 hf8 hc8 (by omega)
  have e9' : EvM (d + 2) 145 [.inr (3, j)] g8 = some (some (.inl (flC (fc7 x1 x2 x3 x4 x5 x6 x7) ls)), g9) := by
    rw [en145]
    simp only [e145_0, e145_1, e145_3, e145_4, e145_7, e145_10, e145_11, e145_14, e145_17, e145_18, e145_21, e145_22, e145_23, e145_24, e145_25, e145_27, e145_30, e145_31, e145_34, e145_35, e145_36, e145_38, e145_41, e145_42, e145_45, e145_48, e145_49, e145_52, e145_53, e145_54, e145_55, e145_58, e145_60, e145_61, e145_64, e145_66, e145_67, e145_70, e145_71, e145_72, e145_75, e145_78, e145_81, e145_82]
    exact e9
  refine ⟨g9, ?_, f8.tr (f9.up (fun k a i q => Or.inr q))⟩
  rw [en144]
  simp only [e144_0, e144_1, e144_4, e144_5, e144_6, e144_7, e144_8, e144_11, e144_12, e144_13, e144_14, e144_15, e144_18, e144_19, e144_20, e144_21, e144_22, e144_25, e144_26, e144_28, e144_29, e144_30, e144_33, e144_34, e144_36, e144_37, e144_38, e144_41, e144_43, e144_45, e144_46, e144_47, e144_50, e144_52, e144_54, e144_55, e144_56, e144_57, e144_60, e144_61, e144_64, e144_65, e144_68, e144_71, e144_74, zU_app, zbI_some, zbV_some, Int.reduceToNat, Int.reduceLE, Int.reduceLT, Int.reduceEq, Nat.reduceEqDiff, and_self, and_true, true_and, and_false, false_and, if_true, if_false, ne_eq, not_true_eq_false, not_false_eq_true, reduceCtorEq, eq_self, true_or, or_true, or_false, false_or, zbR_some, show zU (zU (zU (zU (zU (zU (zU (zU g 29 j 1 x1) 29 j 2 x2) 29 j 3 x3) 29 j 4 x4) 29 j 5 x5) 29 j 6 x6) 29 j 7 x7) 3 j 6 0 = g8 from rfl, e9', j_min, j_max, clp_j]
theorem k_rodds {w : Nat → Int} {ls : List (List (Int × Int) × List (Int × Int))} (d j i p n : Nat) (t run : Int) (g : zG) (hT : TbAt g j w) (hL : LcAt g j ls) (hW : LwAt w ls) (hO : LsOk ls) (hX : RuX w) (hp : (p : Int) < w 17) (h8 : w 17 ≤ 8) (hpc : g 5 j 5 = w 19) (hn : g 1 i 0 = (n : Int)) (ht : g 1 i 3 = t) (hr : ask ls → run = (rnW w n : Int)) : ∃ g', EvM (d + 4) 140 [.inr (5, j), .inl (p : Int), .inr (1, i), .inl (maW w n : Int), .inl run] g = some (some (.inl (odW w p n t)), g') ∧ Fr (sLw j) g g' := by
  obtain ⟨t1, t2, t3, t4⟩ := hT.2 p hp
  obtain ⟨g1, e1, f1⟩ := k_lodds d j (ls := ls) (n : Int) (ctW w n (-1) : Int) t (w (20 + p)) (w (9 + p)) run (w 19) g hL hO
  refine ⟨g1, ?_, f1⟩
  have hm := maW_lt hX.ok n
  have k1 := k_weakOf (d + 2) j p (w 17) g hT.1 h8
  have k2 := k_glassesOf (d + 2) j p (w 17) g hT.1 h8
  rw [if_pos (by omega), Int.toNat_natCast, t1] at k1
  rw [if_pos (by omega), Int.toNat_natCast, t2] at k2
  have kb := j_bitCount (d + 3) (maW w n) g hm
  rw [ma_all hX] at kb
  have key : clp (flC (fc7 (n : Int) (ctW w n (-1) : Int) t (w (20 + p)) (w (9 + p)) run (w 19)) ls) = odW w p n t := by
    rw [odW_fl hW]
    congr 1
    have hfc : fcW w p n t = fc7 (n : Int) (ctW w n (-1) : Int) t (w (20 + p)) (w (9 + p)) (rnW w n : Int) (w 19) := rfl
    by_cases ha : ask ls
    · rw [hr ha, hfc]
    · refine flC_cg (fun s hs => ?_) ls ha
      rw [hfc]
      unfold fc7
      rw [if_neg hs, if_neg hs]
  rw [en140]
  simp only [e140_0, e140_1, e140_4, e140_5, e140_8, e140_9, e140_12, e140_13, e140_16, e140_17, e140_20, e140_21, e140_24, e140_25, e140_28, e140_29, e140_32, e140_34, e140_35, e140_38, e140_41, zU_app, zbI_some, zbV_some, Int.reduceToNat, Int.reduceLE, Int.reduceLT, Int.reduceEq, Nat.reduceEqDiff, and_self, and_true, true_and, and_false, false_and, if_true, if_false, ne_eq, not_true_eq_false, not_false_eq_true, reduceCtorEq, eq_self, true_or, or_true, or_false, false_or, zbR_some, kb, hn, ht, k1, k2, hpc, e1, key]
theorem k_runAhead {w : Nat → Int} {ls : List (List (Int × Int) × List (Int × Int))} (d j i n : Nat) (g : zG) (hA : RuAt g i w) (hX : RuX w) (hL : LcAt g j ls) (hn : g 1 j 0 = ((n + 1 : Nat) : Int)) (h9 : n < 9999) : ∃ r : Int, EvM (d + 3) 133 [.inr (5, j), .inr (6, i)] g = some (some (.inl r), g) ∧ (ask ls → r = (rnW w n : Int)) ∧ (0 ≤ r ∧ r ≤ n) := by
  obtain ⟨l0, l1, l2, l3⟩ := hL
  have hr := k_runUpTo d n i g hA hX (by omega)
  have hz : zwr (((n + 1 : Nat) : Int) - 1) = (n : Int) := by rw [zwr_id (by omega) (by omega)]; omega
  have hle := rnW_le w n
  rw [en133]
  simp only [e133_0, e133_1, e133_4, e133_7, e133_10, e133_11, e133_12, e133_15, e133_18, e133_19, e133_20, e133_23, e133_26, e133_27, zU_app, zbI_some, zbV_some, Int.reduceToNat, Int.reduceLE, Int.reduceLT, Int.reduceEq, Nat.reduceEqDiff, and_self, and_true, true_and, and_false, false_and, if_true, if_false, ne_eq, not_true_eq_false, not_false_eq_true, reduceCtorEq, eq_self, true_or, or_true, or_false, false_or, zbR_some, hn, hz, hr]
  rcases l2 with q | q
  · rw [if_pos q]
    exact ⟨0, rfl, fun ha => absurd (l3.mpr ha) (by omega), by omega⟩
  · rw [if_neg (by omega)]
    exact ⟨_, rfl, fun _ => rfl, by omega⟩
