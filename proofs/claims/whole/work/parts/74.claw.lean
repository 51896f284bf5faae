/-! THE CLASS: the law's code is reckoned -/
def chO (s : Int) : Int := if s = 13 then 43 else if s = 14 then 45 else if s = 15 then 42 else if s = 17 then 60 else if s = 18 then 61 else if s = 19 then 62 else if s = 20 then 14 else if s = 21 then 13 else 12
def tr (o : Int × Int) : List Int := if o.1 = 0 then [o.2] else if o.1 ≤ 7 then [-o.1] else if o.1 = 16 then [o.2, -47] else [-chO o.1]
def trL (s : List (Int × Int)) : List Int := s.flatMap tr
def lnC (l : List (Int × Int) × List (Int × Int)) : List Int := trL l.1 ++ trL l.2 ++ [if l.2.length = 0 then -15 else -16]
def cdL (ls : List (List (Int × Int) × List (Int × Int))) : List Int := ls.flatMap lnC
def PlR (r : Nat → Int) (st : List Int) : Prop := ∀ k, k < st.length → r (st.length - 1 - k) = st.getD k 0
theorem PlR.push {r : Nat → Int} {st : List Int} {x : Int} (h : PlR r st) : PlR (uW r st.length x) (x :: st) := by
  intro k hk
  rw [List.length_cons] at hk ⊢
  cases k with
  | zero => simp [uW]
  | succ k =>
    rw [uW_ne (by omega), List.getD_cons_succ]
    have := h k (by omega)
    rw [show st.length + 1 - 1 - (k + 1) = st.length - 1 - k by omega]
    exact this
theorem PlR.tl {r : Nat → Int} {st : List Int} {y : Int} (h : PlR r (y :: st)) : PlR r st := by
  intro k hk
  have := h (k + 1) (by rw [List.length_cons]; omega)
  rw [List.length_cons, List.getD_cons_succ] at this
  rw [show st.length - 1 - k = st.length + 1 - 1 - (k + 1) by omega]
  exact this
theorem PlR.hd {r : Nat → Int} {st : List Int} {y : Int} (h : PlR r (y :: st)) : r st.length = y := by
  have := h 0 (by simp)
  simpa using this
def SkAt (g : zG) (j : Nat) (st : List Int) : Prop := g 3 j 6 = (st.length : Int) ∧ PlR (g 30 j) st
def sSk (j : Nat) : Nat → Nat → Nat → Prop := fun k a i => (k = 30 ∧ a = j) ∨ (k = 3 ∧ a = j ∧ i = 6)
theorem k_push (d j : Nat) (v : Int) {st : List Int} {g : zG} (h : SkAt g j st) (hl : st.length < 40) : ∃ g', EvM d 148 [.inr (3, j), .inl v] g = some (none, g') ∧ SkAt g' j (v :: st) ∧ Fr (sSk j) g g' := by
  refine ⟨zU (zU g 30 j st.length v) 3 j 6 ((st.length : Int) + 1), ?_, ⟨?_, ?_⟩, ?_⟩
  · rw [en148]
    simp (disch := omega) only [e148_0, e148_1, e148_4, e148_6, e148_9, e148_10, e148_13, e148_14, e148_17, e148_18, e148_19, e148_20, e148_21, e148_24, e148_25, e148_26, e148_29, zU_app, zbI_some, zbV_some, Int.reduceToNat, Int.reduceLE, Int.reduceLT, Int.reduceEq, Nat.reduceEqDiff, and_self, and_true, true_and, and_false, false_and, if_true, if_false, ne_eq, not_true_eq_false, not_false_eq_true, reduceCtorEq, eq_self, true_or, or_true, or_false, false_or, zbR_some, zwr_id, if_pos, if_neg, h.1, Int.toNat_natCast]
  · rw [zU_eq, List.length_cons]
    rfl
  · rw [zU_fn (by omega), zU_row]
    exact h.2.push
  · exact (Fr.u (Or.inl ⟨rfl, rfl⟩)).tr (Fr.u (Or.inr ⟨rfl, rfl, rfl⟩))
theorem k_pop (d j : Nat) {y : Int} {st : List Int} {g : zG} (h : SkAt g j (y :: st)) (hl : st.length < 40) : ∃ g', EvM d 146 [.inr (3, j)] g = some (some (.inl y), g') ∧ SkAt g' j st ∧ Fr (sSk j) g g' := by
  have h1 := h.1
  rw [List.length_cons] at h1
  have h2 : g 3 j 6 - 1 = (st.length : Int) := by omega
  refine ⟨zU g 3 j 6 (st.length : Int), ?_, ⟨?_, ?_⟩, ?_⟩
  · rw [en146]
    have z : zwr (st.length : Int) = st.length := zwr_id (by omega) (by omega)
    simp only [e146_0, e146_1, e146_4, e146_7, e146_8, e146_9, e146_10, e146_11, e146_14, e146_15, e146_16, e146_19, e146_20, e146_23, e146_24, e146_27, e146_28, zU_app, zbI_some, zbV_some, Int.reduceToNat, Int.reduceLE, Int.reduceLT, Int.reduceEq, Nat.reduceEqDiff, and_self, and_true, true_and, and_false, false_and, if_true, if_false, ne_eq, not_true_eq_false, not_false_eq_true, reduceCtorEq, eq_self, true_or, or_true, or_false, false_or, zbR_some, h2, z]
    rw [if_pos (by omega), if_pos (by omega), Int.toNat_natCast, h.2.hd]
  · rw [zU_eq]
  · rw [zU_fn (by omega)]
    exact h.2.tl
  · exact Fr.u (Or.inr ⟨rfl, rfl, rfl⟩)
theorem k_joined (d : Nat) (s a b : Int) (g : zG) (h : 13 ≤ s ∧ s ≤ 22) (h1 : s ≠ 16) (h2 : s ≠ 20) : EvM d 149 [.inl (chO s), .inl a, .inl b] g = some (some (.inl (opB s a b)), g) := by
  rw [en149, e149_0]
  rcases (show s = 13 ∨ s = 14 ∨ s = 15 ∨ s = 17 ∨ s = 18 ∨ s = 19 ∨ s = 21 ∨ s = 22 by omega) with rfl | rfl | rfl | rfl | rfl | rfl | rfl | rfl
  · rw [show chO 13 = 43 from rfl, e149_1_c3]; simp only [e149_0, e149_84, e149_85, e149_86, e149_87, e149_88, e149_89, e149_90, e149_91, e149_92, e149_93, e149_94, e149_95, e149_96, e149_97, e149_100, e149_101, e149_104, e149_105, e149_106, e149_107, e149_108, e149_109, e149_110, e149_113, e149_114, e149_117, e149_118, e149_119, e149_120, e149_121, e149_124, e149_125, e149_128, e149_129, e149_130, e149_131, e149_132, e149_135, e149_136, e149_139, e149_140, e149_141, e149_142, e149_143, e149_144, e149_145, e149_146, e149_147, e149_148, e149_149, e149_150]; rfl
  · rw [show chO 14 = 45 from rfl, e149_1_c4]; simp only [e149_0, e149_84, e149_85, e149_86, e149_87, e149_88, e149_89, e149_90, e149_91, e149_92, e149_93, e149_94, e149_95, e149_96, e149_97, e149_100, e149_101, e149_104, e149_105, e149_106, e149_107, e149_108, e149_109, e149_110, e149_113, e149_114, e149_117, e149_118, e149_119, e149_120, e149_121, e149_124, e149_125, e149_128, e149_129, e149_130, e149_131, e149_132, e149_135, e149_136, e149_139, e149_140, e149_141, e149_142, e149_143, e149_144, e149_145, e149_146, e149_147, e149_148, e149_149, e149_150]; rfl
  · rw [show chO 15 = 42 from rfl, e149_1_c2]; simp only [e149_0, e149_84, e149_85, e149_86, e149_87, e149_88, e149_89, e149_90, e149_91, e149_92, e149_93, e149_94, e149_95, e149_96, e149_97, e149_100, e149_101, e149_104, e149_105, e149_106, e149_107, e149_108, e149_109, e149_110, e149_113, e149_114, e149_117, e149_118, e149_119, e149_120, e149_121, e149_124, e149_125, e149_128, e149_129, e149_130, e149_131, e149_132, e149_135, e149_136, e149_139, e149_140, e149_141, e149_142, e149_143, e149_144, e149_145, e149_146, e149_147, e149_148, e149_149, e149_150]; rfl
  · rw [show chO 17 = 60 from rfl, e149_1_c6]; simp only [e149_0, e149_84, e149_85, e149_86, e149_87, e149_88, e149_89, e149_90, e149_91, e149_92, e149_93, e149_94, e149_95, e149_96, e149_97, e149_100, e149_101, e149_104, e149_105, e149_106, e149_107, e149_108, e149_109, e149_110, e149_113, e149_114, e149_117, e149_118, e149_119, e149_120, e149_121, e149_124, e149_125, e149_128, e149_129, e149_130, e149_131, e149_132, e149_135, e149_136, e149_139, e149_140, e149_141, e149_142, e149_143, e149_144, e149_145, e149_146, e149_147, e149_148, e149_149, e149_150]; by_cases q : a < b <;> simp [opB, zb, q] <;> omega
  · rw [show chO 18 = 61 from rfl, e149_1_c7]; simp only [e149_0, e149_84, e149_85, e149_86, e149_87, e149_88, e149_89, e149_90, e149_91, e149_92, e149_93, e149_94, e149_95, e149_96, e149_97, e149_100, e149_101, e149_104, e149_105, e149_106, e149_107, e149_108, e149_109, e149_110, e149_113, e149_114, e149_117, e149_118, e149_119, e149_120, e149_121, e149_124, e149_125, e149_128, e149_129, e149_130, e149_131, e149_132, e149_135, e149_136, e149_139, e149_140, e149_141, e149_142, e149_143, e149_144, e149_145, e149_146, e149_147, e149_148, e149_149, e149_150]; by_cases q : a = b <;> simp [opB, zb, q]
  · rw [show chO 19 = 62 from rfl, e149_1_c8]; simp only [e149_0, e149_84, e149_85, e149_86, e149_87, e149_88, e149_89, e149_90, e149_91, e149_92, e149_93, e149_94, e149_95, e149_96, e149_97, e149_100, e149_101, e149_104, e149_105, e149_106, e149_107, e149_108, e149_109, e149_110, e149_113, e149_114, e149_117, e149_118, e149_119, e149_120, e149_121, e149_124, e149_125, e149_128, e149_129, e149_130, e149_131, e149_132, e149_135, e149_136, e149_139, e149_140, e149_141, e149_142, e149_143, e149_144, e149_145, e149_146, e149_147, e149_148, e149_149, e149_150]; by_cases q : b < a <;> simp [opB, zb, q] <;> omega
  · rw [show chO 21 = 13 from rfl, e149_1_c1]; simp only [e149_0, e149_84, e149_85, e149_86, e149_87, e149_88, e149_89, e149_90, e149_91, e149_92, e149_93, e149_94, e149_95, e149_96, e149_97, e149_100, e149_101, e149_104, e149_105, e149_106, e149_107, e149_108, e149_109, e149_110, e149_113, e149_114, e149_117, e149_118, e149_119, e149_120, e149_121, e149_124, e149_125, e149_128, e149_129, e149_130, e149_131, e149_132, e149_135, e149_136, e149_139, e149_140, e149_141, e149_142, e149_143, e149_144, e149_145, e149_146, e149_147, e149_148, e149_149, e149_150]; rfl
  · rw [show chO 22 = 12 from rfl, e149_1_c0]; simp only [e149_0, e149_84, e149_85, e149_86, e149_87, e149_88, e149_89, e149_90, e149_91, e149_92, e149_93, e149_94, e149_95, e149_96, e149_97, e149_100, e149_101, e149_104, e149_105, e149_106, e149_107, e149_108, e149_109, e149_110, e149_113, e149_114, e149_117, e149_118, e149_119, e149_120, e149_121, e149_124, e149_125, e149_128, e149_129, e149_130, e149_131, e149_132, e149_135, e149_136, e149_139, e149_140, e149_141, e149_142, e149_143, e149_144, e149_145, e149_146, e149_147, e149_148, e149_149, e149_150]; rfl
theorem k_joinD (d : Nat) (a b : Int) (g : zG) (h : b ≠ 0) : EvM d 149 [.inl 47, .inl a, .inl b] g = some (some (.inl (zwr (Int.tdiv a b))), g) := by
  rw [en149, e149_0, e149_1_c5]
  simp only [e149_0, e149_84, e149_85, e149_86, e149_87, e149_88, e149_89, e149_90, e149_91, e149_92, e149_93, e149_94, e149_95, e149_96, e149_97, e149_100, e149_101, e149_104, e149_105, e149_106, e149_107, e149_108, e149_109, e149_110, e149_113, e149_114, e149_117, e149_118, e149_119, e149_120, e149_121, e149_124, e149_125, e149_128, e149_129, e149_130, e149_131, e149_132, e149_135, e149_136, e149_139, e149_140, e149_141, e149_142, e149_143, e149_144, e149_145, e149_146, e149_147, e149_148, e149_149, e149_150]
  rw [if_pos h, if_neg h]
theorem k_work0 (d j : Nat) (v : Int) {st : List Int} {g : zG} (hv : 0 ≤ v) (h : SkAt g j st) (hl : st.length < 40) : ∃ g', EvM (d + 1) 147 [.inr (3, j), .inl v] g = some (none, g') ∧ SkAt g' j (v :: st) ∧ Fr (sSk j) g g' := by
  obtain ⟨g1, e1, s1, f1⟩ := k_push d j v h hl
  refine ⟨g1, ?_, s1, f1⟩
  rw [en147]
  simp only [e147_0, e147_1, e147_4, e147_5, e147_6, e147_9, e147_12, e147_13, e147_15, e147_18, e147_19, e147_20, e147_23, e147_24, e147_25, e147_26, e147_29, e147_32, e147_33, e147_35, e147_38, e147_39, e147_40, e147_41, e147_44, e147_45, e147_48, e147_51, e147_52, e147_55, e147_56, e147_57, e147_60, e147_61, e147_62, e147_63, e147_64, e147_65, e147_66, e147_69, e147_72, e1, zbV_some]
  rw [if_neg (by omega)]
theorem k_work1 (d j s : Nat) {st : List Int} {g : zG} (hs : 1 ≤ s ∧ s ≤ 7) (h : SkAt g j st) (hl : st.length < 40) : ∃ g', EvM (d + 1) 147 [.inr (3, j), .inl (-(s : Int))] g = some (none, g') ∧ SkAt g' j (g 29 j s :: st) ∧ Fr (sSk j) g g' := by
  obtain ⟨g1, e1, s1, f1⟩ := k_push d j (g 29 j s) h hl
  refine ⟨g1, ?_, s1, f1⟩
  rw [en147]
  simp (disch := omega) only [e147_0, e147_1, e147_4, e147_5, e147_6, e147_9, e147_12, e147_13, e147_15, e147_18, e147_19, e147_20, e147_23, e147_24, e147_25, e147_26, e147_29, e147_32, e147_33, e147_35, e147_38, e147_39, e147_40, e147_41, e147_44, e147_45, e147_48, e147_51, e147_52, e147_55, e147_56, e147_57, e147_60, e147_61, e147_62, e147_63, e147_64, e147_65, e147_66, e147_69, e147_72, zU_app, zbI_some, zbV_some, Int.reduceToNat, Int.reduceLE, Int.reduceLT, Int.reduceEq, Nat.reduceEqDiff, and_self, and_true, true_and, and_false, false_and, if_true, if_false, ne_eq, not_true_eq_false, not_false_eq_true, reduceCtorEq, eq_self, true_or, or_true, or_false, false_or, zbR_some, zwr_id, if_pos, if_neg, Int.neg_neg, Int.toNat_natCast, e1]
theorem k_work2 (d j : Nat) {x : Int} {st : List Int} {g : zG} (h : SkAt g j (x :: st)) (hl : st.length < 40) : ∃ g', EvM (d + 1) 147 [.inr (3, j), .inl (-14)] g = some (none, g') ∧ SkAt g' j (zwr (1 - x) :: st) ∧ Fr (sSk j) g g' := by
  obtain ⟨g1, e1, s1, f1⟩ := k_pop d j h hl
  obtain ⟨g2, e2, s2, f2⟩ := k_push d j (zwr (1 - x)) s1 hl
  refine ⟨g2, ?_, s2, f1.tr f2⟩
  rw [en147]
  simp only [e147_0, e147_1, e147_4, e147_5, e147_6, e147_9, e147_12, e147_13, e147_15, e147_18, e147_19, e147_20, e147_23, e147_24, e147_25, e147_26, e147_29, e147_32, e147_33, e147_35, e147_38, e147_39, e147_40, e147_41, e147_44, e147_45, e147_48, e147_51, e147_52, e147_55, e147_56, e147_57, e147_60, e147_61, e147_62, e147_63, e147_64, e147_65, e147_66, e147_69, e147_72, zU_app, zbI_some, zbV_some, Int.reduceToNat, Int.reduceLE, Int.reduceLT, Int.reduceEq, Nat.reduceEqDiff, and_self, and_true, true_and, and_false, false_and, if_true, if_false, ne_eq, not_true_eq_false, not_false_eq_true, reduceCtorEq, eq_self, true_or, or_true, or_false, false_or, zbR_some, e1, e2]
theorem k_work3 (d j : Nat) {x y z c k : Int} {st : List Int} {g : zG} (hc : c < -7 ∧ c ≠ -14) (hk : zwr (-c) = k) (hj : ∀ d g, EvM d 149 [.inl k, .inl x, .inl y] g = some (some (.inl z), g)) (h : SkAt g j (y :: x :: st)) (hl : st.length < 39) : ∃ g', EvM (d + 1) 147 [.inr (3, j), .inl c] g = some (none, g') ∧ SkAt g' j (z :: st) ∧ Fr (sSk j) g g' := by
  obtain ⟨g1, e1, s1, f1⟩ := k_pop d j h (by rw [List.length_cons]; omega)
  obtain ⟨g2, e2, s2, f2⟩ := k_pop d j s1 (by omega)
  obtain ⟨g3, e3, s3, f3⟩ := k_push d j z s2 (by omega)
  refine ⟨g3, ?_, s3, (f1.tr f2).tr f3⟩
  rw [en147]
  simp only [e147_0, e147_1, e147_4, e147_5, e147_6, e147_9, e147_12, e147_13, e147_15, e147_18, e147_19, e147_20, e147_23, e147_24, e147_25, e147_26, e147_29, e147_32, e147_33, e147_35, e147_38, e147_39, e147_40, e147_41, e147_44, e147_45, e147_48, e147_51, e147_52, e147_55, e147_56, e147_57, e147_60, e147_61, e147_62, e147_63, e147_64, e147_65, e147_66, e147_69, e147_72, zU_app, zbI_some, zbV_some, Int.reduceToNat, Int.reduceLE, Int.reduceLT, Int.reduceEq, Nat.reduceEqDiff, and_self, and_true, true_and, and_false, false_and, if_true, if_false, ne_eq, not_true_eq_false, not_false_eq_true, reduceCtorEq, eq_self, true_or, or_true, or_false, false_or, zbR_some, e1, e2, hk, hj, e3]
  rw [if_pos (by omega), if_pos (by omega), if_pos hc.2]
/-- one piece of code -/
theorem k_fc (d j i N : Nat) (c : Int) (a2 a3 a4 : Option zV) (g : zG) (hN : g 3 j 2 = (N : Int)) (h4 : N ≤ 400) (hi : i < N) (hc : g 28 j i = c) (h15 : c ≠ -15) (h16 : c ≠ -16) {g' : zG} (he : EvM (d + 1) 147 [.inr (3, j), .inl c] g = some (none, g')) : Ev (d + 2) 145 2 [some (.inr (3, j)), some (.inl (i : Int)), a2, a3, a4] [] g = Ev (d + 2) 145 2 [some (.inr (3, j)), some (.inl ((i + 1 : Nat) : Int)), some (.inl c), a3, a4] [] g' := by
  rw [e145_2]
  simp (disch := omega) only [e145_0, e145_1, e145_3, e145_4, e145_7, e145_10, e145_11, e145_14, e145_17, e145_18, e145_21, e145_22, e145_23, e145_24, e145_25, e145_27, e145_30, e145_31, e145_34, e145_35, e145_36, e145_38, e145_41, e145_42, e145_45, e145_48, e145_49, e145_52, e145_53, e145_54, e145_55, e145_58, e145_60, e145_61, e145_64, e145_66, e145_67, e145_70, e145_71, e145_72, e145_75, e145_78, e145_81, e145_82, zU_app, zbI_some, zbV_some, Int.reduceToNat, Int.reduceLE, Int.reduceLT, Int.reduceEq, Nat.reduceEqDiff, and_self, and_true, true_and, and_false, false_and, if_true, if_false, ne_eq, not_true_eq_false, not_false_eq_true, reduceCtorEq, eq_self, true_or, or_true, or_false, false_or, zbR_some, zwr_id, if_pos, if_neg, hN, Int.toNat_natCast, hc, he]
  rfl
def FaAt (g : zG) (j : Nat) (f : Nat → Int) : Prop := ∀ s, 1 ≤ s → s ≤ 7 → g 29 j s = f s
theorem FaAt.fr {g g' : zG} {j : Nat} {f : Nat → Int} (h : FaAt g j f) (hf : Fr (sSk j) g g') : FaAt g' j f := fun s h1 h2 => (hf 29 j s (by unfold sSk; omega)).trans (h s h1 h2)
def CdAt (g : zG) (j i N : Nat) (c : List Int) : Prop := g 3 j 2 = (N : Int) ∧ N ≤ 400 ∧ i + c.length ≤ N ∧ ∀ q, q < c.length → g 28 j (i + q) = c.getD q 0
theorem CdAt.fr {g g' : zG} {j i N : Nat} {c : List Int} (h : CdAt g j i N c) (hf : Fr (sSk j) g g') : CdAt g' j i N c := ⟨(hf 3 j 2 (by unfold sSk; omega)).trans h.1, h.2.1, h.2.2.1, fun q hq => (hf 28 j _ (by unfold sSk; omega)).trans (h.2.2.2 q hq)⟩
theorem CdAt.ap {g : zG} {j i N : Nat} {a b : List Int} (h : CdAt g j i N (a ++ b)) : CdAt g j i N a ∧ CdAt g j (i + a.length) N b := by
  obtain ⟨h1, h2, h3, h4⟩ := h
  rw [List.length_append] at h3 h4
  refine ⟨⟨h1, h2, by omega, fun q hq => ?_⟩, h1, h2, by omega, fun q hq => ?_⟩
  · rw [h4 q (by omega), List.getD_eq_getElem?_getD, List.getElem?_append_left hq, ← List.getD_eq_getElem?_getD]
  · have := h4 (a.length + q) (by omega)
    rw [← Nat.add_assoc] at this
    rw [this, List.getD_eq_getElem?_getD, List.getElem?_append_right (by omega), show a.length + q - a.length = q by omega, ← List.getD_eq_getElem?_getD]
theorem CdAt.hd {g : zG} {j i N : Nat} {c : Int} {l : List Int} (h : CdAt g j i N (c :: l)) : i < N ∧ g 28 j i = c ∧ CdAt g j (i + 1) N l := by
  obtain ⟨h1, h2⟩ := CdAt.ap (a := [c]) (b := l) h
  refine ⟨?_, ?_, h2⟩
  · have := h.2.2.1
    rw [List.length_cons] at this
    omega
  · have := h.2.2.2 0 (by simp)
    simpa using this
theorem chO_rng {s : Int} (h : 13 ≤ s ∧ s ≤ 22) (h1 : s ≠ 16) (h2 : s ≠ 20) : 7 < chO s ∧ chO s ≠ 14 ∧ chO s ≠ 15 ∧ chO s ≠ 16 ∧ chO s < 100 := by
  rcases (show s = 13 ∨ s = 14 ∨ s = 15 ∨ s = 17 ∨ s = 18 ∨ s = 19 ∨ s = 21 ∨ s = 22 by omega) with rfl | rfl | rfl | rfl | rfl | rfl | rfl | rfl <;> decide
/-- one step's code -/
theorem k_fl1 (d j i N m : Nat) (f : Nat → Int) (o : Int × Int) (st : List Int) (g : zG) (a2 a3 a4 : Option zV) (hs : SkAt g j st) (hl : st.length ≤ 40) (hf : FaAt g j f) (hm : okB o st.length = some m) (hc : CdAt g j i N (tr o)) : ∃ g' b2, Ev (d + 2) 145 2 [some (.inr (3, j)), some (.inl (i : Int)), a2, a3, a4] [] g = Ev (d + 2) 145 2 [some (.inr (3, j)), some (.inl ((i + (tr o).length : Nat) : Int)), b2, a3, a4] [] g' ∧ SkAt g' j (opE f o st) ∧ Fr (sSk j) g g' := by
  obtain ⟨o1, o2⟩ := o
  unfold okB at hm
  dsimp only at hm
  by_cases h0 : o1 = 0
  · rw [if_pos h0] at hm
    obtain ⟨⟨q1, q2⟩, -⟩ := zif hm
    have et : tr (o1, o2) = [o2] := if_pos h0
    rw [et] at hc ⊢
    obtain ⟨c1, c2, -⟩ := hc.hd
    obtain ⟨g1, e1, s1, f1⟩ := k_work0 d j o2 q2 hs q1
    refine ⟨g1, _, k_fc d j i N o2 a2 a3 a4 g hc.1 hc.2.1 c1 c2 (by omega) (by omega) e1, ?_, f1⟩
    have : opE f (o1, o2) st = o2 :: st := by unfold opE; rw [if_pos (by show o1 < 13; omega), if_pos h0]
    rw [this]
    exact s1
  · rw [if_neg h0] at hm
    by_cases h7 : 1 ≤ o1 ∧ o1 ≤ 7
    · rw [if_pos h7] at hm
      obtain ⟨q1, -⟩ := zif hm
      have et : tr (o1, o2) = [-o1] := by unfold tr; rw [if_neg h0, if_pos h7.2]
      rw [et] at hc ⊢
      obtain ⟨c1, c2, -⟩ := hc.hd
      obtain ⟨s, rfl⟩ : ∃ s : Nat, o1 = (s : Int) := ⟨o1.toNat, by omega⟩
      obtain ⟨g1, e1, s1, f1⟩ := k_work1 d j s (by omega) hs q1
      refine ⟨g1, _, k_fc d j i N _ a2 a3 a4 g hc.1 hc.2.1 c1 c2 (by omega) (by omega) e1, ?_, f1⟩
      have : opE f ((s : Int), o2) st = f s :: st := by unfold opE; rw [if_pos (by show (s : Int) < 13; omega), if_neg h0]; rfl
      rw [this, ← hf s (by omega) (by omega)]
      exact s1
    · rw [if_neg h7] at hm
      by_cases h16 : o1 = 16
      · rw [if_pos h16] at hm
        obtain ⟨⟨q1, q2, q3⟩, -⟩ := zif hm
        have et : tr (o1, o2) = [o2, -47] := by unfold tr; rw [if_neg h0, if_neg (by show ¬ o1 ≤ 7; omega), if_pos h16]
        rw [et] at hc ⊢
        obtain ⟨c1, c2, hc'⟩ := hc.hd
        match st, q1, q2, hs with
        | x :: r, _, q2, hs =>
          rw [List.length_cons] at q2
          obtain ⟨g1, e1, s1, f1⟩ := k_work0 d j o2 (by omega) hs (by rw [List.length_cons]; omega)
          have hc1 := hc'.fr f1
          obtain ⟨c3, c4, -⟩ := hc1.hd
          obtain ⟨g2, e2, s2, f2⟩ := k_work3 d j (c := -47) (k := 47) (by omega) (by decide) (fun d g => k_joinD d x o2 g (by omega)) s1 (by omega)
          refine ⟨g2, _, (k_fc d j i N o2 a2 a3 a4 g hc.1 hc.2.1 c1 c2 (by omega) (by omega) e1).trans (k_fc d j (i + 1) N (-47) _ a3 a4 g1 hc1.1 hc1.2.1 c3 c4 (by decide) (by decide) e2), ?_, f1.tr f2⟩
          have : opE f (o1, o2) (x :: r) = zwr (Int.tdiv x o2) :: r := by unfold opE; rw [if_neg (by show ¬ o1 < 13; omega), if_pos h16]
          rw [this]
          exact s2
      · rw [if_neg h16] at hm
        by_cases h20 : o1 = 20
        · rw [if_pos h20] at hm
          obtain ⟨q1, -⟩ := zif hm
          have et : tr (o1, o2) = [-14] := by subst h20; rfl
          rw [et] at hc ⊢
          obtain ⟨c1, c2, -⟩ := hc.hd
          match st, q1, hs, hl with
          | x :: r, _, hs, hl =>
            rw [List.length_cons] at hl
            obtain ⟨g1, e1, s1, f1⟩ := k_work2 d j hs (by omega)
            refine ⟨g1, _, k_fc d j i N _ a2 a3 a4 g hc.1 hc.2.1 c1 c2 (by omega) (by omega) e1, ?_, f1⟩
            have : opE f (o1, o2) (x :: r) = zwr (1 - x) :: r := by unfold opE; rw [if_neg (by show ¬ o1 < 13; omega), if_neg h16, if_pos h20]
            rw [this]
            exact s1
        · rw [if_neg h20] at hm
          obtain ⟨h3, hm⟩ := zif hm
          obtain ⟨q1, -⟩ := zif hm
          have et : tr (o1, o2) = [-chO o1] := by unfold tr; rw [if_neg h0, if_neg (by show ¬ o1 ≤ 7; omega), if_neg h16]
          rw [et] at hc ⊢
          obtain ⟨c1, c2, -⟩ := hc.hd
          have hch := chO_rng h3 h16 h20
          match st, q1, hs, hl with
          | y :: x :: r, _, hs, hl =>
            rw [List.length_cons, List.length_cons] at hl
            obtain ⟨g1, e1, s1, f1⟩ := k_work3 d j (c := -chO o1) (k := chO o1) (by omega) (by rw [Int.neg_neg]; exact zwr_id (by omega) (by omega)) (fun d g => k_joined d o1 x y g h3 h16 h20) hs (by omega)
            refine ⟨g1, _, k_fc d j i N _ a2 a3 a4 g hc.1 hc.2.1 c1 c2 (by omega) (by omega) e1, ?_, f1⟩
            have : opE f (o1, o2) (y :: x :: r) = opB o1 x y :: r := by unfold opE; rw [if_neg (by show ¬ o1 < 13; omega), if_neg h16, if_neg h20]
            rw [this]
            exact s1
