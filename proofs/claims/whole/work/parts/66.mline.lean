/-! the model reads a line -/
theorem m_anyTop (d T F : Nat) (hF : 400 < F) (b : Nat → Int) (c : (Int × Nat × Int × Nat)) (s0 : List (Int × Int)) (g : zG) (h : MdAt g b T c) (hs : SlAt g s0) (hl : s0.length ≤ c.2.1) (hd : g 12 0 20 = 0) : ∃ g' x, EvM (d + 37) 125 [.inr (12, 0)] g = some (some (.inl x), g') ∧ Fr sPr g g' ∧ Out g' b T s0 0 x (pAny (cuN b T) F 8 c) := by
  have HO : ∀ (c : (Int × Nat × Int × Nat)) (s0 : List (Int × Int)) (g : zG), MdAt g b T c → SlAt g s0 → s0.length ≤ c.2.1 → g 12 0 20 = 0 → ∃ g' x, EvM (d + 28 + 7) 127 [.inr (12, 0)] g = some (some (.inl x), g') ∧ Fr sPr g g' ∧ Out g' b T s0 0 x (pOne (cuN b T) F 8 c) := fun c s0 g h1 h2 h3 h4 => m_one T F hF b 8 (by omega) d c s0 g h1 h2 h3 h4
  have HE := m_every (d + 28) T F hF b _ (pOne (cuN b T) F 8) (fun c hc => pOne_prg (cuN_nx b T) 8 hc) HO
  exact m_any (d + 29) T F hF b _ (pJo (cuN b T) (pOne (cuN b T) F 8) 5 21 F) (fun c hc => pJo_prg (by decide) (cuN_nx b T) (fun c hc => pOne_prg (cuN_nx b T) 8 hc) hc) HE c s0 g h hs hl hd
/-- a line: its odds, and its test if it has one -/
def pWhen (nx : (Int × Nat × Int × Nat) → (Int × Nat × Int × Nat)) (F : Nat) (c : (Int × Nat × Int × Nat)) : ((Int × Nat) ⊕ ((Int × Nat × Int × Nat) × List (Int × Int))) := if c.1 = 3 then pAny nx F 8 (nx c) else .inr (c, [])
def pLine (nx : (Int × Nat × Int × Nat) → (Int × Nat × Int × Nat)) (F n : Nat) (c : (Int × Nat × Int × Nat)) : ((Int × Nat) ⊕ ((Int × Nat × Int × Nat) × List (Int × Int) × List (Int × Int))) :=
  if c.1 = 20 then (if n = 16 then .inl (3, c.2.1) else
    match pSum nx F (nx c) with
    | .inl e => .inl e
    | .inr (c1, s) =>
      match pWhen nx F c1 with
      | .inl e => .inl e
      | .inr (c2, t) => if c2.1 = 159 then .inr (nx c2, s, t) else .inl (1, c2.2.1))
  else .inl (1, c.2.1)
def sLi : Nat → Nat → Nat → Prop := fun k j i => sPr k j i ∨ (k = 49 ∧ j = 0)
theorem MdAt.fl {g : zG} {b : Nat → Int} {T i : Nat} {c : (Int × Nat × Int × Nat)} {x : Int} (h : MdAt g b T c) : MdAt (zU g 49 0 i x) b T c := by
  obtain ⟨h1, h2, h3, h4, h5, h6, h7⟩ := h
  refine ⟨⟨(zU_fn (by omega)).trans h1.1, by rw [zU_ne (by omega)]; exact h1.2.1, h1.2.2⟩, ⟨h2.1, by rw [zU_ne (by omega)]; exact h2.2⟩, h3, ?_, ?_, ?_, ?_⟩
  · rw [zU_ne (by omega)]; exact h4
  · rw [zU_ne (by omega)]; exact h5
  · rw [zU_ne (by omega)]; exact h6
  · rw [zU_ne (by omega)]; exact h7
theorem SlAt.fl {g : zG} {s : List (Int × Int)} {i : Nat} {x : Int} (h : SlAt g s) : SlAt (zU g 49 0 i x) s := h.fr (zU_ne (by omega)) (zU_fn (by omega))
theorem m_lineEnd (d T : Nat) (b : Nat → Int) (c : (Int × Nat × Int × Nat)) (s : List (Int × Int)) (n : Nat) (hn : n < 16) (g : zG) (h : MdAt g b T c) (hs : SlAt g s) (hln : g 12 0 10 = (n : Int)) : ∃ g' x, Ev (d + 38) 119 101 [some (.inr (12, 0))] [] g = some (some (.inl x), g') ∧ Fr sPr (zU g 49 0 (3 * n + 2) (s.length : Int)) g' ∧ ((c.1 = 159 ∧ x = 1 ∧ MdAt g' b T (cuN b T c) ∧ SlAt g' s) ∨ (c.1 ≠ 159 ∧ x = 0 ∧ g' 12 0 17 = 1 ∧ g' 12 0 18 = (c.2.1 : Int))) := by
  have start : Ev (d + 38) 119 101 [some (.inr (12, 0))] [] g = Ev (d + 38) 119 118 [some (.inr (12, 0))] [] (zU g 49 0 (3 * n + 2) (s.length : Int)) := by
    simp only [e119_0, e119_1, e119_4, e119_6, e119_9, e119_10, e119_11, e119_14, e119_15, e119_16, e119_19, e119_21, e119_24, e119_25, e119_26, e119_29, e119_30, e119_31, e119_32, e119_35, e119_36, e119_39, e119_40, e119_43, e119_44, e119_45, e119_48, e119_49, e119_50, e119_53, e119_54, e119_55, e119_58, e119_61, e119_62, e119_63, e119_64, e119_67, e119_68, e119_69, e119_72, e119_73, e119_74, e119_75, e119_76, e119_79, e119_80, e119_81, e119_84, e119_85, e119_88, e119_89, e119_92, e119_93, e119_96, e119_99, e119_100, e119_101, e119_102, e119_105, e119_106, e119_107, e119_110, e119_111, e119_112, e119_113, e119_114, e119_117, e119_119, e119_122, e119_125, zU_app, zbI_some, zbV_some, Int.reduceToNat, Int.reduceLE, Int.reduceLT, Int.reduceEq, Nat.reduceEqDiff, and_self, and_true, true_and, and_false, false_and, if_true, if_false, ne_eq, not_true_eq_false, not_false_eq_true, reduceCtorEq, hln, hs.1]
    rw [zwr_id (x := 3 * (n : Int)) (by omega) (by omega), zwr_id (x := 3 * (n : Int) + 2) (by omega) (by omega), if_pos (by omega), show (3 * (n : Int) + 2).toNat = 3 * n + 2 by omega]
  rw [start]
  rcases m_need (d + 29) T b c 159 _ (h.fl (i := 3 * n + 2) (x := (s.length : Int))) with ⟨e, g3, c1, c2, c3⟩ | ⟨e, c1⟩
  · refine ⟨g3, 1, ?_, c3.up (fun _ _ _ z => tk_pr z), Or.inl ⟨e, rfl, c2, hs.fl.tk c3⟩⟩
    have c1' : EvM (d + 37) 129 [.inr (12, 0), .inl 159] (zU g 49 0 (3 * n + 2) (s.length : Int)) = some (some (.inl 1), g3) := c1
    simp only [e119_0, e119_1, e119_4, e119_6, e119_9, e119_10, e119_11, e119_14, e119_15, e119_16, e119_19, e119_21, e119_24, e119_25, e119_26, e119_29, e119_30, e119_31, e119_32, e119_35, e119_36, e119_39, e119_40, e119_43, e119_44, e119_45, e119_48, e119_49, e119_50, e119_53, e119_54, e119_55, e119_58, e119_61, e119_62, e119_63, e119_64, e119_67, e119_68, e119_69, e119_72, e119_73, e119_74, e119_75, e119_76, e119_79, e119_80, e119_81, e119_84, e119_85, e119_88, e119_89, e119_92, e119_93, e119_96, e119_99, e119_100, e119_101, e119_102, e119_105, e119_106, e119_107, e119_110, e119_111, e119_112, e119_113, e119_114, e119_117, e119_118, e119_119, e119_122, e119_125, c1', zbI_some]
    simp
  · refine ⟨_, 0, ?_, bad_fr _ 1 (c.2.1 : Int), Or.inr ⟨e, rfl, rfl, rfl⟩⟩
    have c1' : EvM (d + 37) 129 [.inr (12, 0), .inl 159] (zU g 49 0 (3 * n + 2) (s.length : Int)) = some (some (.inl 0), _) := c1
    simp only [e119_0, e119_1, e119_4, e119_6, e119_9, e119_10, e119_11, e119_14, e119_15, e119_16, e119_19, e119_21, e119_24, e119_25, e119_26, e119_29, e119_30, e119_31, e119_32, e119_35, e119_36, e119_39, e119_40, e119_43, e119_44, e119_45, e119_48, e119_49, e119_50, e119_53, e119_54, e119_55, e119_58, e119_61, e119_62, e119_63, e119_64, e119_67, e119_68, e119_69, e119_72, e119_73, e119_74, e119_75, e119_76, e119_79, e119_80, e119_81, e119_84, e119_85, e119_88, e119_89, e119_92, e119_93, e119_96, e119_99, e119_100, e119_101, e119_102, e119_105, e119_106, e119_107, e119_110, e119_111, e119_112, e119_113, e119_114, e119_117, e119_118, e119_119, e119_122, e119_125, c1', zbI_some]
    simp
/-- what a line leaves -/
def OutL (g g' : zG) (b : Nat → Int) (T n : Nat) (s0 : List (Int × Int)) (x : Int) (r : ((Int × Nat) ⊕ ((Int × Nat × Int × Nat) × List (Int × Int) × List (Int × Int)))) : Prop :=
  match r with
  | .inl q => x = 0 ∧ g' 12 0 17 = q.1 ∧ g' 12 0 18 = (q.2 : Int)
  | .inr q => x = 1 ∧ MdAt g' b T q.1 ∧ SlAt g' (s0 ++ q.2.1 ++ q.2.2) ∧ g' 49 0 (3 * n) = (s0.length : Int) ∧ g' 49 0 (3 * n + 1) = ((s0 ++ q.2.1).length : Int) ∧ g' 49 0 (3 * n + 2) = ((s0 ++ q.2.1 ++ q.2.2).length : Int) ∧ ∀ i, ¬ (3 * n ≤ i ∧ i ≤ 3 * n + 2) → g' 49 0 i = g 49 0 i
theorem m_lineFin (d T : Nat) (b : Nat → Int) (c2 : (Int × Nat × Int × Nat)) (s0 s t : List (Int × Int)) (n : Nat) (hn : n < 16) (g g5 : zG) (h : MdAt g5 b T c2) (hs : SlAt g5 (s0 ++ s ++ t)) (hf : Fr sLi g g5) (hln : g5 12 0 10 = (n : Int)) (e0 : g5 49 0 (3 * n) = (s0.length : Int)) (e1 : g5 49 0 (3 * n + 1) = ((s0 ++ s).length : Int)) (eo : ∀ i, ¬ (3 * n ≤ i ∧ i ≤ 3 * n + 2) → g5 49 0 i = g 49 0 i) : ∃ g' x, Ev (d + 38) 119 101 [some (.inr (12, 0))] [] g5 = some (some (.inl x), g') ∧ Fr sLi g g' ∧ OutL g g' b T n s0 x (if c2.1 = 159 then .inr (cuN b T c2, s, t) else .inl (1, c2.2.1)) := by
  obtain ⟨g', x, a1, a2, a3⟩ := m_lineEnd d T b c2 (s0 ++ s ++ t) n hn g5 h hs hln
  have f2 : Fr sLi g g' := hf.tr ((Fr.u (Or.inr ⟨rfl, rfl⟩)).tr (a2.up (fun _ _ _ z => Or.inl z)))
  refine ⟨g', x, a1, f2, ?_⟩
  have e49 : ∀ i, g' 49 0 i = zU g5 49 0 (3 * n + 2) ((s0 ++ s ++ t).length : Int) 49 0 i := fun i => a2 49 0 i (by simp [sPr])
  rcases a3 with ⟨q, x1, m1, m2⟩ | ⟨q, x1, m1, m2⟩
  · rw [if_pos q]
    refine ⟨x1, m1, m2, ?_, ?_, ?_, fun i hi => ?_⟩
    · rw [e49, zU_ne (by omega)]; exact e0
    · rw [e49, zU_ne (by omega)]; exact e1
    · rw [e49, zU_eq]
    · rw [e49, zU_ne (by omega)]; exact eo i hi
  · rw [if_neg q]
    exact ⟨x1, m1, m2⟩
theorem m_aLine (d T F : Nat) (hF : 400 < F) (b : Nat → Int) (c : (Int × Nat × Int × Nat)) (s0 : List (Int × Int)) (n : Nat) (hn : n ≤ 16) (g : zG) (h : MdAt g b T c) (hs : SlAt g s0) (hl : s0.length ≤ c.2.1) (hln : g 12 0 10 = (n : Int)) : ∃ g' x, EvM (d + 38) 119 [.inr (12, 0)] g = some (some (.inl x), g') ∧ Fr sLi g g' ∧ OutL g g' b T n s0 x (pLine (cuN b T) F n c) := by
  have h4 := h.1.2.2
  have hv := h.2.2.1
  have ht := h.2.2.2.1
  unfold pLine
  by_cases q : c.1 = 20
  · rw [if_pos q]
    by_cases q2 : n = 16
    · rw [if_pos q2]
      refine ⟨_, 0, ?_, (bad_fr g 3 (c.2.1 : Int)).up (fun _ _ _ z => Or.inl z), rfl, rfl, rfl⟩
      rw [en119]
      simp only [e119_0, e119_1, e119_4, e119_6, e119_9, e119_10, e119_11, e119_14, e119_15, e119_16, e119_19, e119_21, e119_24, e119_25, e119_26, e119_29, e119_30, e119_31, e119_32, e119_35, e119_36, e119_39, e119_40, e119_43, e119_44, e119_45, e119_48, e119_49, e119_50, e119_53, e119_54, e119_55, e119_58, e119_61, e119_62, e119_63, e119_64, e119_67, e119_68, e119_69, e119_72, e119_73, e119_74, e119_75, e119_76, e119_79, e119_80, e119_81, e119_84, e119_85, e119_88, e119_89, e119_92, e119_93, e119_96, e119_99, e119_100, e119_101, e119_102, e119_105, e119_106, e119_107, e119_110, e119_111, e119_112, e119_113, e119_114, e119_117, e119_118, e119_119, e119_122, e119_125, zU_app, zbI_some, zbV_some, Int.reduceToNat, Int.reduceLE, Int.reduceLT, Int.reduceEq, Nat.reduceEqDiff, and_self, and_true, true_and, and_false, false_and, if_true, if_false, ne_eq, not_true_eq_false, not_false_eq_true, reduceCtorEq, ht, q, hln, q2, m_bad _ _ _ g h.2.2.2.2.1]
      simp
    · rw [if_neg q2]
      have hlt := hv.2.2 (by omega)
      obtain ⟨n1, n2⟩ := cuN_ok (b := b) hv
      obtain ⟨g1, a1, a2, a3⟩ := m_nx (d + 30) T b c _ (h.dp (x := 0))
      have hs1 : SlAt g1 s0 := hs.dp.tk a3
      have hd1 : g1 12 0 20 = 0 := by rw [a3 12 0 20 (by simp [sTk]), zU_eq]
      have hl1 : g1 12 0 10 = (n : Int) := by rw [a3 12 0 10 (by simp [sTk]), zU_ne (by omega)]; exact hln
      obtain ⟨g2, x, b1, b2, b3⟩ := m_sumUp (d + 27) T F hF b (cuN b T c) s0 0 (zU g1 49 0 (3 * n) (s0.length : Int)) a2.fl hs1.fl (by omega) (by rw [zU_ne (by omega)]; exact hd1)
      have f2 : Fr sLi g g2 := (((Fr.u (by simp [sLi, sPr])).tr (a3.up (fun _ _ _ z => Or.inl (tk_pr z)))).tr (Fr.u (Or.inr ⟨rfl, rfl⟩))).tr (b2.up (fun _ _ _ z => Or.inl z))
      have start : EvM (d + 38) 119 [.inr (12, 0)] g = Ev (d + 38) 119 58 [some (.inr (12, 0))] [.inl x] g2 := by
        rw [en119]
        simp only [e119_0, e119_1, e119_4, e119_6, e119_9, e119_10, e119_11, e119_14, e119_15, e119_16, e119_19, e119_21, e119_24, e119_25, e119_26, e119_29, e119_30, e119_31, e119_32, e119_35, e119_36, e119_39, e119_40, e119_43, e119_44, e119_45, e119_48, e119_49, e119_50, e119_53, e119_54, e119_55, e119_61, e119_62, e119_63, e119_64, e119_67, e119_68, e119_69, e119_72, e119_73, e119_74, e119_75, e119_76, e119_79, e119_80, e119_81, e119_84, e119_85, e119_88, e119_89, e119_92, e119_93, e119_96, e119_99, e119_100, e119_101, e119_102, e119_105, e119_106, e119_107, e119_110, e119_111, e119_112, e119_113, e119_114, e119_117, e119_118, e119_119, e119_122, e119_125, zU_app, zbI_some, zbV_some, Int.reduceToNat, Int.reduceLE, Int.reduceLT, Int.reduceEq, Nat.reduceEqDiff, and_self, and_true, true_and, and_false, false_and, if_true, if_false, ne_eq, not_true_eq_false, not_false_eq_true, reduceCtorEq, ht, q, hln]
        rw [if_pos (by omega), a1, zbV_some]
        simp only [e119_0, e119_1, e119_4, e119_6, e119_9, e119_10, e119_11, e119_14, e119_15, e119_16, e119_19, e119_21, e119_24, e119_25, e119_26, e119_29, e119_30, e119_31, e119_32, e119_35, e119_36, e119_39, e119_40, e119_43, e119_44, e119_45, e119_48, e119_49, e119_50, e119_53, e119_54, e119_55, e119_61, e119_62, e119_63, e119_64, e119_67, e119_68, e119_69, e119_72, e119_73, e119_74, e119_75, e119_76, e119_79, e119_80, e119_81, e119_84, e119_85, e119_88, e119_89, e119_92, e119_93, e119_96, e119_99, e119_100, e119_101, e119_102, e119_105, e119_106, e119_107, e119_110, e119_111, e119_112, e119_113, e119_114, e119_117, e119_118, e119_119, e119_122, e119_125, zU_app, zbI_some, zbV_some, Int.reduceToNat, Int.reduceLE, Int.reduceLT, Int.reduceEq, Nat.reduceEqDiff, and_self, and_true, true_and, and_false, false_and, if_true, if_false, ne_eq, not_true_eq_false, not_false_eq_true, reduceCtorEq, hl1, hs1.1]
        rw [zwr_id (x := 3 * (n : Int)) (by omega) (by omega), if_pos (by omega), show (3 * (n : Int)).toNat = 3 * n by omega, b1, zbI_some]
      rw [start]
      cases hr : pSum (cuN b T) F (cuN b T c) with
      | inl y =>
        rw [hr] at b3
        obtain ⟨z1, z2, z3⟩ := b3
        refine ⟨g2, 0, ?_, f2, rfl, z2, z3⟩
        simp only [e119_0, e119_1, e119_4, e119_6, e119_9, e119_10, e119_11, e119_14, e119_15, e119_16, e119_19, e119_21, e119_24, e119_25, e119_26, e119_29, e119_30, e119_31, e119_32, e119_35, e119_36, e119_39, e119_40, e119_43, e119_44, e119_45, e119_48, e119_49, e119_50, e119_53, e119_54, e119_55, e119_58, e119_61, e119_62, e119_63, e119_64, e119_67, e119_68, e119_69, e119_72, e119_73, e119_74, e119_75, e119_76, e119_79, e119_80, e119_81, e119_84, e119_85, e119_88, e119_89, e119_92, e119_93, e119_96, e119_99, e119_100, e119_101, e119_102, e119_105, e119_106, e119_107, e119_110, e119_111, e119_112, e119_113, e119_114, e119_117, e119_118, e119_119, e119_122, e119_125, zU_app, zbI_some, zbV_some, Int.reduceToNat, Int.reduceLE, Int.reduceLT, Int.reduceEq, Nat.reduceEqDiff, and_self, and_true, true_and, and_false, false_and, if_true, if_false, ne_eq, not_true_eq_false, not_false_eq_true, reduceCtorEq, z1]
        simp
      | inr y =>
        rw [hr] at b3
        obtain ⟨z1, z2, z3, z4⟩ := b3
        obtain ⟨p1, p2, p3⟩ := pSum_prg (cuN_nx b T) n1 y.1 y.2 hr
        have hl2 : g2 12 0 10 = (n : Int) := by rw [b2 12 0 10 (by simp [sPr]), zU_ne (by omega)]; exact hl1
        have e20 : g2 49 0 (3 * n) = (s0.length : Int) := by rw [b2 49 0 _ (by simp [sPr]), zU_eq]
        have e2o : ∀ i, i ≠ 3 * n → g2 49 0 i = g 49 0 i := fun i hi => by rw [b2 49 0 _ (by simp [sPr]), zU_ne (by omega), a3 49 0 i (by simp [sTk]), zU_ne (by omega)]
        have m3 : MdAt (zU g2 49 0 (3 * n + 1) ((s0 ++ y.2).length : Int)) b T y.1 := z2.fl
        have s3 : SlAt (zU g2 49 0 (3 * n + 1) ((s0 ++ y.2).length : Int)) (s0 ++ y.2) := z3.fl
        have f3 : Fr sLi g (zU g2 49 0 (3 * n + 1) ((s0 ++ y.2).length : Int)) := f2.tr (Fr.u (Or.inr ⟨rfl, rfl⟩))
        have l3 : zU g2 49 0 (3 * n + 1) ((s0 ++ y.2).length : Int) 12 0 10 = (n : Int) := by rw [zU_ne (by omega)]; exact hl2
        have d3 : zU g2 49 0 (3 * n + 1) ((s0 ++ y.2).length : Int) 12 0 20 = 0 := by rw [zU_ne (by omega)]; exact z4
        have e30 : zU g2 49 0 (3 * n + 1) ((s0 ++ y.2).length : Int) 49 0 (3 * n) = (s0.length : Int) := by rw [zU_ne (by omega)]; exact e20
        have e31 : zU g2 49 0 (3 * n + 1) ((s0 ++ y.2).length : Int) 49 0 (3 * n + 1) = ((s0 ++ y.2).length : Int) := zU_eq _ _ _ _ _
        have e3o : ∀ i, ¬ (3 * n ≤ i ∧ i ≤ 3 * n + 2) → zU g2 49 0 (3 * n + 1) ((s0 ++ y.2).length : Int) 49 0 i = g 49 0 i := fun i hi => by rw [zU_ne (by omega)]; exact e2o i (by omega)
        have st2 : Ev (d + 38) 119 58 [some (.inr (12, 0))] [.inl x] g2 = Ev (d + 38) 119 80 [some (.inr (12, 0))] [] (zU g2 49 0 (3 * n + 1) ((s0 ++ y.2).length : Int)) := by
          simp only [e119_0, e119_1, e119_4, e119_6, e119_9, e119_10, e119_11, e119_14, e119_15, e119_16, e119_19, e119_21, e119_24, e119_25, e119_26, e119_29, e119_30, e119_31, e119_32, e119_35, e119_36, e119_39, e119_40, e119_43, e119_44, e119_45, e119_48, e119_49, e119_50, e119_53, e119_54, e119_55, e119_58, e119_61, e119_62, e119_63, e119_64, e119_67, e119_68, e119_69, e119_72, e119_73, e119_74, e119_75, e119_76, e119_79, e119_81, e119_84, e119_85, e119_88, e119_89, e119_92, e119_93, e119_96, e119_99, e119_100, e119_101, e119_102, e119_105, e119_106, e119_107, e119_110, e119_111, e119_112, e119_113, e119_114, e119_117, e119_118, e119_119, e119_122, e119_125, zU_app, zbI_some, zbV_some, Int.reduceToNat, Int.reduceLE, Int.reduceLT, Int.reduceEq, Nat.reduceEqDiff, and_self, and_true, true_and, and_false, false_and, if_true, if_false, ne_eq, not_true_eq_false, not_false_eq_true, reduceCtorEq, z1, hl2, z3.1]
          rw [zwr_id (x := 3 * (n : Int)) (by omega) (by omega), zwr_id (x := 3 * (n : Int) + 1) (by omega) (by omega), if_pos (by omega), show (3 * (n : Int) + 1).toNat = 3 * n + 1 by omega]
        rw [st2]
        generalize zU g2 49 0 (3 * n + 1) ((s0 ++ y.2).length : Int) = g3 at *
        have t3 := m3.2.2.2.1
        show ∃ g' x, _ ∧ Fr sLi g g' ∧ OutL g g' b T n s0 x (match pWhen (cuN b T) F y.1 with | .inl e => .inl e | .inr (c2, t) => if c2.1 = 159 then .inr (cuN b T c2, y.2, t) else .inl (1, c2.2.1))
        unfold pWhen
        by_cases q3 : y.1.1 = 3
        · rw [if_pos q3]
          have hlt2 := p1.2.2 (by omega)
          obtain ⟨n3, n4⟩ := cuN_ok (b := b) p1
          obtain ⟨g4, c1, c2, c3⟩ := m_nx (d + 30) T b y.1 g3 m3
          obtain ⟨g5, x', w1, w2, w3⟩ := m_anyTop d T F hF b (cuN b T y.1) (s0 ++ y.2) g4 c2 (s3.tk c3) (by rw [List.length_append]; omega) (by rw [c3 12 0 20 (by simp [sTk])]; exact d3)
          have f5 : Fr sLi g g5 := (f3.tr (c3.up (fun _ _ _ z => Or.inl (tk_pr z)))).tr (w2.up (fun _ _ _ z => Or.inl z))
          have e5 : ∀ i, g5 49 0 i = g3 49 0 i := fun i => by rw [w2 49 0 i (by simp [sPr]), c3 49 0 i (by simp [sTk])]
          have st3 : Ev (d + 38) 119 80 [some (.inr (12, 0))] [] g3 = Ev (d + 38) 119 96 [some (.inr (12, 0))] [.inl x'] g5 := by
            simp only [e119_0, e119_1, e119_4, e119_6, e119_9, e119_10, e119_11, e119_14, e119_15, e119_16, e119_19, e119_21, e119_24, e119_25, e119_26, e119_29, e119_30, e119_31, e119_32, e119_35, e119_36, e119_39, e119_40, e119_43, e119_44, e119_45, e119_48, e119_49, e119_50, e119_53, e119_54, e119_55, e119_58, e119_61, e119_62, e119_63, e119_64, e119_67, e119_68, e119_69, e119_72, e119_73, e119_74, e119_75, e119_76, e119_79, e119_80, e119_81, e119_84, e119_85, e119_88, e119_89, e119_92, e119_93, e119_99, e119_100, e119_101, e119_102, e119_105, e119_106, e119_107, e119_110, e119_111, e119_112, e119_113, e119_114, e119_117, e119_118, e119_119, e119_122, e119_125, zU_app, zbI_some, zbV_some, Int.reduceToNat, Int.reduceLE, Int.reduceLT, Int.reduceEq, Nat.reduceEqDiff, and_self, and_true, true_and, and_false, false_and, if_true, if_false, ne_eq, not_true_eq_false, not_false_eq_true, reduceCtorEq, t3, q3, c1, w1]
          rw [st3]
          cases hr2 : pAny (cuN b T) F 8 (cuN b T y.1) with
          | inl y2 =>
            rw [hr2] at w3
            obtain ⟨v1, v2, v3⟩ := w3
            refine ⟨g5, 0, ?_, f5, rfl, v2, v3⟩
            simp only [e119_0, e119_1, e119_4, e119_6, e119_9, e119_10, e119_11, e119_14, e119_15, e119_16, e119_19, e119_21, e119_24, e119_25, e119_26, e119_29, e119_30, e119_31, e119_32, e119_35, e119_36, e119_39, e119_40, e119_43, e119_44, e119_45, e119_48, e119_49, e119_50, e119_53, e119_54, e119_55, e119_58, e119_61, e119_62, e119_63, e119_64, e119_67, e119_68, e119_69, e119_72, e119_73, e119_74, e119_75, e119_76, e119_79, e119_80, e119_81, e119_84, e119_85, e119_88, e119_89, e119_92, e119_93, e119_96, e119_99, e119_100, e119_101, e119_102, e119_105, e119_106, e119_107, e119_110, e119_111, e119_112, e119_113, e119_114, e119_117, e119_118, e119_119, e119_122, e119_125, zU_app, zbI_some, zbV_some, Int.reduceToNat, Int.reduceLE, Int.reduceLT, Int.reduceEq, Nat.reduceEqDiff, and_self, and_true, true_and, and_false, false_and, if_true, if_false, ne_eq, not_true_eq_false, not_false_eq_true, reduceCtorEq, v1]
            simp
          | inr y2 =>
            rw [hr2] at w3
            obtain ⟨v1, v2, v3, v4⟩ := w3
            have l5 : g5 12 0 10 = (n : Int) := by rw [w2 12 0 10 (by simp [sPr]), c3 12 0 10 (by simp [sTk])]; exact l3
            obtain ⟨g6, x6, k1, k2, k3⟩ := m_lineFin d T b y2.1 s0 y.2 y2.2 n (by omega) g g5 v2 v3 f5 l5 (by rw [e5]; exact e30) (by rw [e5]; exact e31) (fun i hi => by rw [e5]; exact e3o i hi)
            refine ⟨g6, x6, ?_, k2, k3⟩
            rw [← k1]
            simp only [e119_0, e119_1, e119_4, e119_6, e119_9, e119_10, e119_11, e119_14, e119_15, e119_16, e119_19, e119_21, e119_24, e119_25, e119_26, e119_29, e119_30, e119_31, e119_32, e119_35, e119_36, e119_39, e119_40, e119_43, e119_44, e119_45, e119_48, e119_49, e119_50, e119_53, e119_54, e119_55, e119_58, e119_61, e119_62, e119_63, e119_64, e119_67, e119_68, e119_69, e119_72, e119_73, e119_74, e119_75, e119_76, e119_79, e119_80, e119_81, e119_84, e119_85, e119_88, e119_89, e119_92, e119_93, e119_96, e119_99, e119_100, e119_102, e119_105, e119_106, e119_107, e119_110, e119_111, e119_112, e119_113, e119_114, e119_117, e119_118, e119_119, e119_122, e119_125, zU_app, zbI_some, zbV_some, Int.reduceToNat, Int.reduceLE, Int.reduceLT, Int.reduceEq, Nat.reduceEqDiff, and_self, and_true, true_and, and_false, false_and, if_true, if_false, ne_eq, not_true_eq_false, not_false_eq_true, reduceCtorEq, v1]
        · rw [if_neg q3]
          obtain ⟨g6, x6, k1, k2, k3⟩ := m_lineFin d T b y.1 s0 y.2 [] n (by omega) g g3 m3 (by rw [List.append_nil]; exact s3) f3 l3 e30 e31 e3o
          refine ⟨g6, x6, ?_, k2, k3⟩
          rw [← k1]
          simp only [e119_0, e119_1, e119_4, e119_6, e119_9, e119_10, e119_11, e119_14, e119_15, e119_16, e119_19, e119_21, e119_24, e119_25, e119_26, e119_29, e119_30, e119_31, e119_32, e119_35, e119_36, e119_39, e119_40, e119_43, e119_44, e119_45, e119_48, e119_49, e119_50, e119_53, e119_54, e119_55, e119_58, e119_61, e119_62, e119_63, e119_64, e119_67, e119_68, e119_69, e119_72, e119_73, e119_74, e119_75, e119_76, e119_79, e119_80, e119_81, e119_84, e119_85, e119_88, e119_89, e119_92, e119_93, e119_96, e119_99, e119_100, e119_102, e119_105, e119_106, e119_107, e119_110, e119_111, e119_112, e119_113, e119_114, e119_117, e119_118, e119_119, e119_122, e119_125, zU_app, zbI_some, zbV_some, Int.reduceToNat, Int.reduceLE, Int.reduceLT, Int.reduceEq, Nat.reduceEqDiff, and_self, and_true, true_and, and_false, false_and, if_true, if_false, ne_eq, not_true_eq_false, not_false_eq_true, reduceCtorEq, t3]
          rw [if_pos q3]
  · rw [if_neg q]
    refine ⟨_, 0, ?_, (bad_fr g 1 (c.2.1 : Int)).up (fun _ _ _ z => Or.inl z), rfl, rfl, rfl⟩
    rw [en119]
    simp only [e119_0, e119_1, e119_4, e119_6, e119_9, e119_10, e119_11, e119_14, e119_15, e119_16, e119_19, e119_21, e119_24, e119_25, e119_26, e119_29, e119_30, e119_31, e119_32, e119_35, e119_36, e119_39, e119_40, e119_43, e119_44, e119_45, e119_48, e119_49, e119_50, e119_53, e119_54, e119_55, e119_58, e119_61, e119_62, e119_63, e119_64, e119_67, e119_68, e119_69, e119_72, e119_73, e119_74, e119_75, e119_76, e119_79, e119_80, e119_81, e119_84, e119_85, e119_88, e119_89, e119_92, e119_93, e119_96, e119_99, e119_100, e119_101, e119_102, e119_105, e119_106, e119_107, e119_110, e119_111, e119_112, e119_113, e119_114, e119_117, e119_118, e119_119, e119_122, e119_125, zU_app, zbI_some, zbV_some, Int.reduceToNat, Int.reduceLE, Int.reduceLT, Int.reduceEq, Nat.reduceEqDiff, and_self, and_true, true_and, and_false, false_and, if_true, if_false, ne_eq, not_true_eq_false, not_false_eq_true, reduceCtorEq, ht, m_bad _ _ _ g h.2.2.2.2.1]
    rw [if_neg q]
    simp
