/-! the law's steps on a pile; the model's comesTo -/
def opB (s a b : Int) : Int := if s = 13 then zwr (a + b) else if s = 14 then zwr (a - b) else if s = 15 then zwr (a * b) else if s = 17 then zb (a < b) else if s = 18 then zb (a = b) else if s = 19 then zb (b < a) else if s = 21 then zand a b else zor a b
def opE (f : Nat → Int) (o : Int × Int) (st : List Int) : List Int :=
  if o.1 < 13 then (if o.1 = 0 then o.2 else f o.1.toNat) :: st
  else if o.1 = 16 then (match st with
    | x :: r => zwr (Int.tdiv x o.2) :: r
    | [] => [])
  else if o.1 = 20 then (match st with
    | x :: r => zwr (1 - x) :: r
    | [] => [])
  else (match st with
    | b :: a :: r => opB o.1 a b :: r
    | _ => [])
def okO (o : Int × Int) (n : Nat) : Option Nat :=
  if 0 ≤ o.1 ∧ o.1 ≤ 7 then some (n + 1)
  else if o.1 = 16 then (if 1 ≤ n ∧ o.2 ≠ 0 then some n else none)
  else if o.1 = 20 then (if 1 ≤ n then some n else none)
  else if 13 ≤ o.1 ∧ o.1 ≤ 22 then (if 2 ≤ n then some (n - 1) else none) else none
def dpO : List (Int × Int) → Nat → Option Nat
  | [], n => some n
  | o :: l, n => (okO o n).bind (dpO l)
def exO (f : Nat → Int) : List (Int × Int) → List Int → List Int
  | [], st => st
  | o :: l, st => exO f l (opE f o st)
/-- only these places may have changed -/
def Fr (S : Nat → Nat → Nat → Prop) (g g' : zG) : Prop := ∀ k j i, ¬ S k j i → g' k j i = g k j i
theorem Fr.rf {S : Nat → Nat → Nat → Prop} {g : zG} : Fr S g g := fun _ _ _ _ => rfl
theorem Fr.tr {S : Nat → Nat → Nat → Prop} {a b c : zG} (h1 : Fr S a b) (h2 : Fr S b c) : Fr S a c := fun k j i h => (h2 k j i h).trans (h1 k j i h)
theorem Fr.up {S T : Nat → Nat → Nat → Prop} {g g' : zG} (h : Fr S g g') (hs : ∀ k j i, S k j i → T k j i) : Fr T g g' := fun k j i hn => h k j i (fun q => hn (hs k j i q))
theorem Fr.u {S : Nat → Nat → Nat → Prop} {g : zG} {k j i : Nat} {x : Int} (h : S k j i) : Fr S g (zU g k j i x) := fun k' j' i' hn => zU_ne (fun q => hn (by obtain ⟨rfl, rfl, rfl⟩ := q; exact h))
theorem Fr.fn {S : Nat → Nat → Nat → Prop} {g g' : zG} (h : Fr S g g') {k j : Nat} (hn : ∀ i, ¬ S k j i) : g' k j = g k j := funext fun i => h k j i (hn i)
def sPile : Nat → Nat → Nat → Prop := fun k _ _ => k = 52
def PileOk (g : zG) (st : List Int) : Prop := ∀ k, k < st.length → g 52 0 (st.length - 1 - k) = st.getD k 0
theorem m_both (d : Nat) (s a b : Int) (g : zG) (h : 13 ≤ s ∧ s ≤ 22) (h1 : s ≠ 16) (h2 : s ≠ 20) : EvM d 174 [.inl s, .inl a, .inl b] g = some (some (.inl (opB s a b)), g) := by
  rw [en174, e174_0]
  rcases (show s = 13 ∨ s = 14 ∨ s = 15 ∨ s = 17 ∨ s = 18 ∨ s = 19 ∨ s = 21 ∨ s = 22 by omega) with rfl | rfl | rfl | rfl | rfl | rfl | rfl | rfl
  · rw [e174_1_c0]; simp only [e174_0, e174_52, e174_53, e174_54, e174_55, e174_56, e174_57, e174_58, e174_59, e174_60, e174_61, e174_62, e174_63, e174_64, e174_65, e174_66, e174_69, e174_70, e174_73, e174_74, e174_75, e174_76, e174_77, e174_80, e174_81, e174_84, e174_85, e174_86, e174_87, e174_88, e174_91, e174_92, e174_95, e174_96, e174_97, e174_98, e174_99, e174_100, e174_101, e174_102, e174_103, e174_104]; rfl
  · rw [e174_1_c1]; simp only [e174_0, e174_52, e174_53, e174_54, e174_55, e174_56, e174_57, e174_58, e174_59, e174_60, e174_61, e174_62, e174_63, e174_64, e174_65, e174_66, e174_69, e174_70, e174_73, e174_74, e174_75, e174_76, e174_77, e174_80, e174_81, e174_84, e174_85, e174_86, e174_87, e174_88, e174_91, e174_92, e174_95, e174_96, e174_97, e174_98, e174_99, e174_100, e174_101, e174_102, e174_103, e174_104]; rfl
  · rw [e174_1_c2]; simp only [e174_0, e174_52, e174_53, e174_54, e174_55, e174_56, e174_57, e174_58, e174_59, e174_60, e174_61, e174_62, e174_63, e174_64, e174_65, e174_66, e174_69, e174_70, e174_73, e174_74, e174_75, e174_76, e174_77, e174_80, e174_81, e174_84, e174_85, e174_86, e174_87, e174_88, e174_91, e174_92, e174_95, e174_96, e174_97, e174_98, e174_99, e174_100, e174_101, e174_102, e174_103, e174_104]; rfl
  · rw [e174_1_c4]; simp only [e174_0, e174_52, e174_53, e174_54, e174_55, e174_56, e174_57, e174_58, e174_59, e174_60, e174_61, e174_62, e174_63, e174_64, e174_65, e174_66, e174_69, e174_70, e174_73, e174_74, e174_75, e174_76, e174_77, e174_80, e174_81, e174_84, e174_85, e174_86, e174_87, e174_88, e174_91, e174_92, e174_95, e174_96, e174_97, e174_98, e174_99, e174_100, e174_101, e174_102, e174_103, e174_104]; by_cases q : a < b <;> simp [opB, zb, q] <;> omega
  · rw [e174_1_c5]; simp only [e174_0, e174_52, e174_53, e174_54, e174_55, e174_56, e174_57, e174_58, e174_59, e174_60, e174_61, e174_62, e174_63, e174_64, e174_65, e174_66, e174_69, e174_70, e174_73, e174_74, e174_75, e174_76, e174_77, e174_80, e174_81, e174_84, e174_85, e174_86, e174_87, e174_88, e174_91, e174_92, e174_95, e174_96, e174_97, e174_98, e174_99, e174_100, e174_101, e174_102, e174_103, e174_104]; by_cases q : a = b <;> simp [opB, zb, q]
  · rw [e174_1_c6]; simp only [e174_0, e174_52, e174_53, e174_54, e174_55, e174_56, e174_57, e174_58, e174_59, e174_60, e174_61, e174_62, e174_63, e174_64, e174_65, e174_66, e174_69, e174_70, e174_73, e174_74, e174_75, e174_76, e174_77, e174_80, e174_81, e174_84, e174_85, e174_86, e174_87, e174_88, e174_91, e174_92, e174_95, e174_96, e174_97, e174_98, e174_99, e174_100, e174_101, e174_102, e174_103, e174_104]; by_cases q : b < a <;> simp [opB, zb, q] <;> omega
  · rw [e174_1_c8]; simp only [e174_0, e174_52, e174_53, e174_54, e174_55, e174_56, e174_57, e174_58, e174_59, e174_60, e174_61, e174_62, e174_63, e174_64, e174_65, e174_66, e174_69, e174_70, e174_73, e174_74, e174_75, e174_76, e174_77, e174_80, e174_81, e174_84, e174_85, e174_86, e174_87, e174_88, e174_91, e174_92, e174_95, e174_96, e174_97, e174_98, e174_99, e174_100, e174_101, e174_102, e174_103, e174_104]; rfl
  · rw [e174_1_def _ _ _ _ (by omega)]; simp only [e174_0, e174_52, e174_53, e174_54, e174_55, e174_56, e174_57, e174_58, e174_59, e174_60, e174_61, e174_62, e174_63, e174_64, e174_65, e174_66, e174_69, e174_70, e174_73, e174_74, e174_75, e174_76, e174_77, e174_80, e174_81, e174_84, e174_85, e174_86, e174_87, e174_88, e174_91, e174_92, e174_95, e174_96, e174_97, e174_98, e174_99, e174_100, e174_101, e174_102, e174_103, e174_104]; rfl
theorem pile_push {g : zG} {st : List Int} {x : Int} (h : PileOk g st) : PileOk (zU g 52 0 st.length x) (x :: st) := by
  intro k hk
  rw [List.length_cons] at hk ⊢
  cases k with
  | zero => simp [zU_app]
  | succ k =>
    rw [zU_ne (by omega), List.getD_cons_succ]
    have := h k (by omega)
    rw [show st.length + 1 - 1 - (k + 1) = st.length - 1 - k by omega]
    exact this
theorem pile_top {g : zG} {st : List Int} {x y : Int} (h : PileOk g (y :: st)) : PileOk (zU g 52 0 st.length x) (x :: st) := by
  intro k hk
  rw [List.length_cons] at hk ⊢
  cases k with
  | zero => simp [zU_app]
  | succ k =>
    rw [zU_ne (by omega), List.getD_cons_succ]
    have := h (k + 1) (by rw [List.length_cons]; omega)
    rw [List.length_cons, List.getD_cons_succ] at this
    exact this
theorem pile_tail {g : zG} {st : List Int} {y : Int} (h : PileOk g (y :: st)) : PileOk g st := by
  intro k hk
  have := h (k + 1) (by rw [List.length_cons]; omega)
  rw [List.length_cons, List.getD_cons_succ] at this
  rw [show st.length - 1 - k = st.length + 1 - 1 - (k + 1) by omega]
  exact this
theorem pile_0 {g : zG} {st : List Int} {y : Int} (h : PileOk g (y :: st)) : g 52 0 st.length = y := by
  have := h 0 (by simp)
  simpa using this
theorem opE_len {f : Nat → Int} {o : Int × Int} {st : List Int} {m : Nat} (h : okO o st.length = some m) : (opE f o st).length = m := by
  unfold okO at h
  unfold opE
  split at h
  · rw [if_pos (by omega)]
    cases h
    rfl
  · split at h
    · rename_i h16
      rw [if_neg (by omega), if_pos h16]
      obtain ⟨h1, h⟩ := zif h
      cases st with
      | nil => simp at h1
      | cons a r => cases h; rfl
    · split at h
      · rename_i h16 h20
        rw [if_neg (by omega), if_neg h16, if_pos h20]
        obtain ⟨h1, h⟩ := zif h
        cases st with
        | nil => simp at h1
        | cons a r => cases h; rfl
      · rename_i h16 h20
        obtain ⟨h3, h⟩ := zif h
        obtain ⟨h1, h⟩ := zif h
        rw [if_neg (by omega), if_neg h16, if_neg h20]
        match st, h1, h with
        | b :: a :: r, _, h => cases h; rfl
/-- where the steps stand -/
def StAt (w : Nat → Int) (i : Nat) (l : List (Int × Int)) : Prop := ∀ k, k < l.length → w (550 + 2 * (i + k)) = (l.getD k (0, 0)).1 ∧ w (550 + 2 * (i + k) + 1) = (l.getD k (0, 0)).2
theorem StAt.tl {w : Nat → Int} {i : Nat} {o : Int × Int} {l : List (Int × Int)} (h : StAt w i (o :: l)) : StAt w (i + 1) l := by
  intro k hk
  have := h (k + 1) (by rw [List.length_cons]; omega)
  rw [List.getD_cons_succ, show i + (k + 1) = i + 1 + k by omega] at this
  exact this
set_option maxHeartbeats 1000000 in
/-- one step -/
theorem m_come1 (d : Nat) (f : Nat → Int) (w : Nat → Int) (i e : Nat) (b : Int) (a5 a6 : Option zV) (o : Int × Int) (st : List Int) (g : zG) (hw : g 46 0 = w) (hf : ∀ s, 1 ≤ s → s ≤ 7 → g 53 0 s = f s) (hie : i < e) (he : e ≤ 400) (ho : w (550 + 2 * i) = o.1 ∧ w (550 + 2 * i + 1) = o.2) (hp : PileOk g st) (hl : st.length < 410) (m : Nat) (hm : okO o st.length = some m) :
    ∃ g', Ev (d + 1) 173 5 [some (.inr (12, 0)), some (.inl b), some (.inl (e : Int)), some (.inl (st.length : Int)), some (.inl (i : Int)), a5, a6] [] g = Ev (d + 1) 173 5 [some (.inr (12, 0)), some (.inl b), some (.inl (e : Int)), some (.inl ((opE f o st).length : Int)), some (.inl ((i + 1 : Nat) : Int)), some (.inl o.1), some (.inl o.2)] [] g' ∧ PileOk g' (opE f o st) ∧ Fr sPile g g' := by
  obtain ⟨o1, o2⟩ := o
  dsimp only at ho hm ⊢
  have w1 : g 46 0 (550 + 2 * i) = o1 := by rw [hw]; exact ho.1
  have w2 : g 46 0 (550 + 2 * i + 1) = o2 := by rw [hw]; exact ho.2
  have n1 : (550 + 2 * (i : Int)).toNat = 550 + 2 * i := by omega
  have n2 : (550 + 2 * (i : Int) + 1).toNat = 550 + 2 * i + 1 := by omega
  have first : Ev (d + 1) 173 5 [some (.inr (12, 0)), some (.inl b), some (.inl (e : Int)), some (.inl (st.length : Int)), some (.inl (i : Int)), a5, a6] [] g = Ev (d + 1) 173 43 [some (.inr (12, 0)), some (.inl b), some (.inl (e : Int)), some (.inl (st.length : Int)), some (.inl (i : Int)), some (.inl o1), some (.inl o2)] [] g := by
    rw [e173_5]
    simp only [e173_0, e173_1, e173_2, e173_3, e173_7, e173_8, e173_11, e173_12, e173_15, e173_18, e173_19, e173_21, e173_22, e173_23, e173_24, e173_26, e173_27, e173_30, e173_33, e173_34, e173_36, e173_37, e173_38, e173_39, e173_40, e173_41, e173_45, e173_47, e173_50, e173_51, e173_54, e173_55, e173_57, e173_60, e173_62, e173_65, e173_66, e173_69, e173_71, e173_72, e173_73, e173_76, e173_79, e173_81, e173_83, e173_86, e173_87, e173_90, e173_91, e173_92, e173_93, e173_94, e173_95, e173_97, e173_98, e173_99, e173_102, e173_104, e173_106, e173_109, e173_110, e173_113, e173_114, e173_115, e173_116, e173_117, e173_118, e173_121, e173_122, e173_123, e173_124, e173_125, e173_126, e173_127, e173_130, e173_133, e173_134, e173_137, e173_138, e173_139, e173_140, e173_142, e173_143, e173_146, e173_147, e173_148, e173_149, e173_150, e173_151, e173_154, e173_155, e173_156, e173_159, e173_160, e173_163, e173_166, e173_167, e173_170, e173_171, e173_172]
    rw [if_neg (by omega), zwr_id (x := 2 * (i : Int)) (by omega) (by omega), zwr_id (x := 550 + 2 * (i : Int)) (by omega) (by omega), zwr_id (x := 550 + 2 * (i : Int) + 1) (by omega) (by omega), if_pos (by omega), if_pos (by omega), n1, n2, w1, w2]
  have last : ∀ (t : Int) (g' : zG), Ev (d + 1) 173 160 [some (.inr (12, 0)), some (.inl b), some (.inl (e : Int)), some (.inl t), some (.inl (i : Int)), some (.inl o1), some (.inl o2)] [] g' = Ev (d + 1) 173 5 [some (.inr (12, 0)), some (.inl b), some (.inl (e : Int)), some (.inl t), some (.inl ((i + 1 : Nat) : Int)), some (.inl o1), some (.inl o2)] [] g' := by
    intro t g'
    simp only [e173_0, e173_1, e173_2, e173_3, e173_7, e173_8, e173_11, e173_12, e173_15, e173_18, e173_19, e173_21, e173_22, e173_23, e173_24, e173_26, e173_27, e173_30, e173_33, e173_34, e173_36, e173_37, e173_38, e173_39, e173_40, e173_41, e173_43, e173_45, e173_47, e173_50, e173_51, e173_54, e173_55, e173_57, e173_60, e173_62, e173_65, e173_66, e173_69, e173_71, e173_72, e173_73, e173_76, e173_79, e173_81, e173_83, e173_86, e173_87, e173_90, e173_91, e173_92, e173_93, e173_94, e173_95, e173_97, e173_98, e173_99, e173_102, e173_104, e173_106, e173_109, e173_110, e173_113, e173_114, e173_115, e173_116, e173_117, e173_118, e173_121, e173_122, e173_123, e173_124, e173_125, e173_126, e173_127, e173_130, e173_133, e173_134, e173_137, e173_138, e173_139, e173_140, e173_142, e173_143, e173_146, e173_147, e173_148, e173_149, e173_150, e173_151, e173_154, e173_155, e173_156, e173_159, e173_160, e173_163, e173_166, e173_167, e173_170, e173_171, e173_172]
    rw [zwr_id (by omega) (by omega)]
    rfl
  have hlen := opE_len (f := f) hm
  rw [hlen, first]
  unfold okO at hm
  dsimp only at hm
  split at hm
  · rename_i h7
    cases hm
    have hx : opE f (o1, o2) st = (if o1 = 0 then o2 else f o1.toNat) :: st := by unfold opE; rw [if_pos (by show o1 < 13; omega)]
    rw [hx]
    refine ⟨zU g 52 0 st.length (if o1 = 0 then o2 else f o1.toNat), ?_, pile_push hp, Fr.u rfl⟩
    simp only [e173_0, e173_1, e173_2, e173_3, e173_7, e173_8, e173_11, e173_12, e173_15, e173_18, e173_19, e173_21, e173_22, e173_23, e173_24, e173_26, e173_27, e173_30, e173_33, e173_34, e173_36, e173_37, e173_38, e173_39, e173_40, e173_41, e173_43, e173_45, e173_47, e173_50, e173_51, e173_54, e173_55, e173_57, e173_60, e173_62, e173_65, e173_66, e173_69, e173_71, e173_72, e173_73, e173_76, e173_79, e173_81, e173_83, e173_86, e173_87, e173_90, e173_91, e173_92, e173_93, e173_94, e173_95, e173_97, e173_98, e173_99, e173_102, e173_104, e173_106, e173_109, e173_110, e173_113, e173_114, e173_115, e173_116, e173_117, e173_118, e173_121, e173_122, e173_123, e173_124, e173_125, e173_126, e173_127, e173_130, e173_133, e173_134, e173_137, e173_138, e173_139, e173_140, e173_142, e173_143, e173_146, e173_147, e173_148, e173_149, e173_150, e173_151, e173_154, e173_155, e173_156, e173_159, e173_163, e173_166, e173_167, e173_170, e173_171, e173_172]
    rw [if_neg (by omega)]
    by_cases h0 : o1 = 0
    · rw [if_neg (fun q => q h0), if_pos h0, if_pos (by omega), zwr_id (by omega) (by omega), last]
      rfl
    · rw [if_pos h0, if_neg h0, if_pos (by omega), if_pos (by omega), zwr_id (by omega) (by omega), last, hf o1.toNat (by omega) (by omega)]
      rfl
  · split at hm
    · rename_i h16
      obtain ⟨⟨q1, q2⟩, hm⟩ := zif hm
      cases hm
      match st, q1, hp, hl with
      | x :: r, _, hp, hl =>
        have hx : opE f (o1, o2) (x :: r) = zwr (Int.tdiv x o2) :: r := by unfold opE; rw [if_neg (by show ¬ o1 < 13; omega), if_pos h16]
        rw [hx]
        refine ⟨zU g 52 0 r.length (zwr (Int.tdiv x o2)), ?_, pile_top hp, Fr.u rfl⟩
        have p0 := pile_0 hp
        rw [List.length_cons] at hl ⊢
        simp only [e173_0, e173_1, e173_2, e173_3, e173_7, e173_8, e173_11, e173_12, e173_15, e173_18, e173_19, e173_21, e173_22, e173_23, e173_24, e173_26, e173_27, e173_30, e173_33, e173_34, e173_36, e173_37, e173_38, e173_39, e173_40, e173_41, e173_43, e173_45, e173_47, e173_50, e173_51, e173_54, e173_55, e173_57, e173_60, e173_62, e173_65, e173_66, e173_69, e173_71, e173_72, e173_73, e173_76, e173_79, e173_81, e173_83, e173_86, e173_87, e173_90, e173_91, e173_92, e173_93, e173_94, e173_95, e173_97, e173_98, e173_99, e173_102, e173_104, e173_106, e173_109, e173_110, e173_113, e173_114, e173_115, e173_116, e173_117, e173_118, e173_121, e173_122, e173_123, e173_124, e173_125, e173_126, e173_127, e173_130, e173_133, e173_134, e173_137, e173_138, e173_139, e173_140, e173_142, e173_143, e173_146, e173_147, e173_148, e173_149, e173_150, e173_151, e173_154, e173_155, e173_156, e173_159, e173_163, e173_166, e173_167, e173_170, e173_171, e173_172]
        rw [if_pos (by omega), if_neg (fun q => q h16), zwr_id (x := ((r.length + 1 : Nat) : Int) - 1) (by omega) (by omega), show ((r.length + 1 : Nat) : Int) - 1 = (r.length : Int) by omega, if_pos (by omega), if_neg q2, if_pos (by omega), last, show ((r.length : Int)).toNat = r.length by omega, p0]
    · split at hm
      · rename_i h16 h20
        obtain ⟨q1, hm⟩ := zif hm
        cases hm
        match st, q1, hp, hl with
        | x :: r, _, hp, hl =>
          have hx : opE f (o1, o2) (x :: r) = zwr (1 - x) :: r := by unfold opE; rw [if_neg (by show ¬ o1 < 13; omega), if_neg h16, if_pos h20]
          rw [hx]
          refine ⟨zU g 52 0 r.length (zwr (1 - x)), ?_, pile_top hp, Fr.u rfl⟩
          have p0 := pile_0 hp
          rw [List.length_cons] at hl ⊢
          simp only [e173_0, e173_1, e173_2, e173_3, e173_7, e173_8, e173_11, e173_12, e173_15, e173_18, e173_19, e173_21, e173_22, e173_23, e173_24, e173_26, e173_27, e173_30, e173_33, e173_34, e173_36, e173_37, e173_38, e173_39, e173_40, e173_41, e173_43, e173_45, e173_47, e173_50, e173_51, e173_54, e173_55, e173_57, e173_60, e173_62, e173_65, e173_66, e173_69, e173_71, e173_72, e173_73, e173_76, e173_79, e173_81, e173_83, e173_86, e173_87, e173_90, e173_91, e173_92, e173_93, e173_94, e173_95, e173_97, e173_98, e173_99, e173_102, e173_104, e173_106, e173_109, e173_110, e173_113, e173_114, e173_115, e173_116, e173_117, e173_118, e173_121, e173_122, e173_123, e173_124, e173_125, e173_126, e173_127, e173_130, e173_133, e173_134, e173_137, e173_138, e173_139, e173_140, e173_142, e173_143, e173_146, e173_147, e173_148, e173_149, e173_150, e173_151, e173_154, e173_155, e173_156, e173_159, e173_163, e173_166, e173_167, e173_170, e173_171, e173_172]
          rw [if_pos (by omega), if_pos h16, if_neg (fun q => q h20), zwr_id (x := ((r.length + 1 : Nat) : Int) - 1) (by omega) (by omega), show ((r.length + 1 : Nat) : Int) - 1 = (r.length : Int) by omega, if_pos (by omega), if_pos (by omega), last, show ((r.length : Int)).toNat = r.length by omega, p0]
      · rename_i h16 h20
        obtain ⟨h3, hm⟩ := zif hm
        obtain ⟨q1, hm⟩ := zif hm
        cases hm
        match st, q1, hp, hl with
        | y :: x :: r, _, hp, hl =>
          have hx : opE f (o1, o2) (y :: x :: r) = opB o1 x y :: r := by unfold opE; rw [if_neg (by show ¬ o1 < 13; omega), if_neg h16, if_neg h20]
          rw [hx]
          refine ⟨zU g 52 0 r.length (opB o1 x y), ?_, pile_top (pile_tail hp), Fr.u rfl⟩
          have p0 := pile_0 hp
          have p1 := pile_0 (pile_tail hp)
          rw [List.length_cons] at p0
          rw [List.length_cons, List.length_cons] at hl ⊢
          simp only [e173_0, e173_1, e173_2, e173_3, e173_7, e173_8, e173_11, e173_12, e173_15, e173_18, e173_19, e173_21, e173_22, e173_23, e173_24, e173_26, e173_27, e173_30, e173_33, e173_34, e173_36, e173_37, e173_38, e173_39, e173_40, e173_41, e173_43, e173_45, e173_47, e173_50, e173_51, e173_54, e173_55, e173_57, e173_60, e173_62, e173_65, e173_66, e173_69, e173_71, e173_72, e173_73, e173_76, e173_79, e173_81, e173_83, e173_86, e173_87, e173_90, e173_91, e173_92, e173_93, e173_94, e173_95, e173_97, e173_98, e173_99, e173_102, e173_104, e173_106, e173_109, e173_110, e173_113, e173_114, e173_115, e173_116, e173_117, e173_118, e173_121, e173_122, e173_123, e173_124, e173_125, e173_126, e173_127, e173_130, e173_133, e173_134, e173_137, e173_138, e173_139, e173_140, e173_142, e173_143, e173_146, e173_147, e173_148, e173_149, e173_150, e173_151, e173_154, e173_155, e173_156, e173_159, e173_163, e173_166, e173_167, e173_170, e173_171, e173_172, m_both _ _ _ _ _ h3 h16 h20, zbI_some]
          rw [if_pos (by omega), if_pos h16, if_pos h20, zwr_id (x := ((r.length + 1 + 1 : Nat) : Int) + -1) (by omega) (by omega), show ((r.length + 1 + 1 : Nat) : Int) + -1 = ((r.length + 1 : Nat) : Int) by omega, zwr_id (x := ((r.length + 1 : Nat) : Int) - 1) (by omega) (by omega), show ((r.length + 1 : Nat) : Int) - 1 = (r.length : Int) by omega, if_pos (by omega), if_pos (by omega), if_pos (by omega), last, show ((r.length : Int)).toNat = r.length by omega, show (((r.length + 1 : Nat) : Int)).toNat = r.length + 1 by omega, p0, p1]
          rfl
