/-! THE CLASS: seating -/
def BsAt (g : zG) (q : Int × List Nat) : Prop := g 7 0 0 = q.1 ∧ ∀ k, k < q.2.length → g 38 0 k = (q.2.getD k 0 : Int)
def sSr : Nat → Nat → Nat → Prop := fun k a x => (k = 7 ∧ a = 0 ∧ x = 0) ∨ ((k = 37 ∨ k = 38) ∧ a = 0)
theorem LyAt.fr {g g' : zG} {w : Nat → Int} {n k : Nat} (h : LyAt g w n k) (hf : Fr sSr g g') : LyAt g' w n k := fun i hi => by
  obtain ⟨q1, q2⟩ := h i hi
  refine ⟨by rw [hf 35 0 i (by unfold sSr; omega)]; exact q1, fun p hp => by rw [hf 36 0 _ (by unfold sSr; omega)]; exact q2 p hp⟩
/-- the best order is this one -/
def bsU (g : zG) : zG := fun k' a b => if k' = 38 ∧ a = 0 ∧ b < 6 then g 37 0 b else g k' a b
theorem k_acO (d : Nat) (g : zG) : EvM d 999 [.inr (37, 0), .inl 0, .inr (38, 0), .inl 0, .inl 6] g = some (none, bsU g) := by
  unfold EvM
  rw [if_pos rfl]
  simp only [zcp, show zA 37 = some (0, 6) from rfl, show zA 38 = some (0, 6) from rfl]
  rw [if_pos ⟨by omega, by omega, by omega, by omega, by omega⟩]
  congr 2
  funext a b c
  unfold bsU
  by_cases h1 : a = 38 ∧ b = 0
  · obtain ⟨rfl, rfl⟩ := h1
    rw [if_pos ⟨rfl, rfl⟩]
    by_cases h2 : c < 6
    · rw [if_pos (show Int.toNat 0 ≤ c ∧ c < Int.toNat 0 + Int.toNat 6 by simp; omega), if_pos ⟨rfl, rfl, h2⟩]
      simp
    · rw [if_neg (show ¬ (Int.toNat 0 ≤ c ∧ c < Int.toNat 0 + Int.toNat 6) by simp; omega), if_neg (fun q => h2 q.2.2)]
  · rw [if_neg h1, if_neg (fun q => h1 ⟨q.1, q.2.1⟩)]
theorem k_seStep {w : Nat → Int} {ls : List (List (Int × Int) × List (Int × Int))} (hP : PeOk w) (hW : LwAt w ls) (d n v : Nat) (hw : w 17 = (n : Int)) (hn : 2 ≤ n ∧ n ≤ 6) (hv : 1 ≤ v ∧ v ≤ 60) (a : List Nat) (k : Nat) (q : Int × List Nat) (u5 : Option zV) (g : zG) (ho : a.Nodup ∧ (∀ x, x ∈ a → x < n) ∧ a.length = n) (hk : k < 720) (hO : OrAt g a) (hB : BsAt g q) (hL : LyAt g w n v) : ∃ g' c, Ev (d + 2) 235 44 [some (.inr (7, 0)), some (.inl (n : Int)), some (.inl (v : Int)), some (.inl 1), some (.inl (k : Int)), u5] [] g = Ev (d + 2) 235 93 [some (.inr (7, 0)), some (.inl (n : Int)), some (.inl (v : Int)), some (.inl 1), some (.inl (k : Int)), some (.inl c)] [] g' ∧ OrAt g' a ∧ BsAt g' (stp (gtF w n v) q a) ∧ Fr sSr g g' := by
  obtain ⟨o1, o2, o3⟩ := ho
  have hF := gtF_ci hW hw ⟨by omega, by omega⟩ o1 o2 o3 v hv
  obtain ⟨c, e1, c1, c2⟩ := k_ciL (d + 1) n v a q.1 g hP.1 hw hn.2 hv.2 hL hO o3 o2 hB.1 v 0 1000000 none none (by omega) (by omega)
  have e1' : EvM (d + 1) 236 [.inr (7, 0), .inl (v : Int)] g = some (some (.inl c), g) := by
    rw [en236]
    simp only [e236_0, e236_2, e236_3, e236_4, e236_6, e236_7, e236_10, e236_11, e236_13, e236_16, e236_17, e236_18, e236_21, e236_24, e236_25, e236_28, e236_29, e236_30, e236_32, e236_34, e236_37, e236_39, e236_41, e236_44, e236_45, e236_48, e236_50, e236_51, e236_54, e236_55, e236_57, e236_59, e236_62, e236_64, e236_66, e236_69, e236_70, e236_73, e236_74, e236_77, e236_78, e236_80, e236_81, e236_83, e236_84, e236_85, e236_86, e236_87, e236_90, e236_91, e236_92, e236_95, e236_98, e236_99]
    exact e1
  unfold stp
  rw [hF]
  by_cases hq : c ≤ q.1
  · refine ⟨g, c, ?_, hO, ?_, Fr.rf⟩
    · rw [e235_44]
      simp (disch := omega) only [e235_0, e235_1, e235_3, e235_6, e235_7, e235_9, e235_12, e235_13, e235_14, e235_16, e235_18, e235_21, e235_22, e235_25, e235_26, e235_27, e235_28, e235_31, e235_34, e235_35, e235_36, e235_39, e235_40, e235_41, e235_42, e235_46, e235_49, e235_52, e235_53, e235_56, e235_57, e235_58, e235_61, e235_63, e235_65, e235_66, e235_69, e235_72, e235_73, e235_75, e235_78, e235_79, e235_82, e235_83, e235_84, e235_87, e235_88, e235_90, e235_94, e235_95, e235_98, e235_99, e235_102, e235_105, zU_app, zbI_some, zbV_some, Int.reduceToNat, Int.reduceLE, Int.reduceLT, Int.reduceEq, Nat.reduceEqDiff, and_self, and_true, true_and, and_false, false_and, if_true, if_false, ne_eq, not_true_eq_false, not_false_eq_true, reduceCtorEq, eq_self, true_or, or_true, or_false, false_or, zbR_some, zwr_id, if_pos, if_neg, e1', hB.1]
    · rw [if_neg (by have := c2 hq; omega)]
      exact hB
  · have hc := c1 (by omega)
    refine ⟨bsU (zU g 7 0 0 c), c, ?_, ?_, ?_, ?_⟩
    · rw [e235_44]
      simp (disch := omega) only [e235_0, e235_1, e235_3, e235_6, e235_7, e235_9, e235_12, e235_13, e235_14, e235_16, e235_18, e235_21, e235_22, e235_25, e235_26, e235_27, e235_28, e235_31, e235_34, e235_35, e235_36, e235_39, e235_40, e235_41, e235_42, e235_46, e235_49, e235_52, e235_53, e235_56, e235_57, e235_58, e235_61, e235_63, e235_65, e235_66, e235_69, e235_72, e235_73, e235_75, e235_78, e235_79, e235_82, e235_83, e235_84, e235_87, e235_88, e235_90, e235_94, e235_95, e235_98, e235_99, e235_102, e235_105, zU_app, zbI_some, zbV_some, Int.reduceToNat, Int.reduceLE, Int.reduceLT, Int.reduceEq, Nat.reduceEqDiff, and_self, and_true, true_and, and_false, false_and, if_true, if_false, ne_eq, not_true_eq_false, not_false_eq_true, reduceCtorEq, eq_self, true_or, or_true, or_false, false_or, zbR_some, zwr_id, if_pos, if_neg, e1', hB.1, k_acO]
    · intro i hi
      exact hO i hi
    · rw [if_pos (by omega), ← hc]
      refine ⟨rfl, fun i hi => ?_⟩
      show bsU (zU g 7 0 0 c) 38 0 i = _
      unfold bsU
      rw [if_pos ⟨rfl, rfl, by have : i < a.length := hi; omega⟩]
      exact hO i hi
    · exact (Fr.u (k := 7) (j := 0) (i := 0) (x := c) (by unfold sSr; omega)).tr (fun k j x z => if_neg (fun y => z (by unfold sSr; omega)))
theorem k_seL {w : Nat → Int} {ls : List (List (Int × Int) × List (Int × Int))} (hP : PeOk w) (hW : LwAt w ls) (d n v : Nat) (hw : w 17 = (n : Int)) (hn : 2 ≤ n ∧ n ≤ 6) (hv : 1 ≤ v ∧ v ≤ 60) : ∀ (r : List (List Nat)) (a : List Nat) (k : Nat) (q : Int × List Nat) (u5 : Option zV) (g : zG), (∀ o, o ∈ a :: r → o.Nodup ∧ (∀ x, x ∈ o → x < n) ∧ o.length = n) → chB n (a :: r) = true → k + (a :: r).length ≤ 720 → OrAt g a → BsAt g q → LyAt g w n v → ∃ g', Ev (d + 2) 235 44 [some (.inr (7, 0)), some (.inl (n : Int)), some (.inl (v : Int)), some (.inl 1), some (.inl (k : Int)), u5] [] g = some (none, g') ∧ BsAt g' ((a :: r).foldl (stp (gtF w n v)) q) ∧ Fr sSr g g' := by
  intro r
  induction r with
  | nil =>
    intro a k q u5 g ho hch hk hO hB hL
    rw [List.length_cons, List.length_nil] at hk
    have hoa := ho a List.mem_cons_self
    obtain ⟨g1, c, e1, h1, h2, f1⟩ := k_seStep hP hW d n v hw hn hv a k q u5 g hoa (by omega) hO hB hL
    have hx : nxL n a = none := of_decide_eq_true hch
    obtain ⟨g2, -, e2, f2⟩ := k_nextOrder d n a g1 h1 hoa.2.2 hn
    refine ⟨g2, ?_, ?_, f1.tr (f2.up (fun k j x z => by unfold sSr; omega))⟩
    · rw [e1]
      simp only [e235_0, e235_1, e235_3, e235_6, e235_7, e235_9, e235_12, e235_13, e235_14, e235_16, e235_18, e235_21, e235_22, e235_25, e235_26, e235_27, e235_28, e235_31, e235_34, e235_35, e235_36, e235_39, e235_40, e235_41, e235_42, e235_46, e235_49, e235_52, e235_53, e235_56, e235_57, e235_58, e235_61, e235_63, e235_65, e235_66, e235_69, e235_72, e235_73, e235_75, e235_78, e235_79, e235_82, e235_83, e235_84, e235_87, e235_88, e235_90, e235_93, e235_94, e235_95, e235_98, e235_99, e235_102, e235_105, zU_app, zbI_some, zbV_some, Int.reduceToNat, Int.reduceLE, Int.reduceLT, Int.reduceEq, Nat.reduceEqDiff, and_self, and_true, true_and, and_false, false_and, if_true, if_false, ne_eq, not_true_eq_false, not_false_eq_true, reduceCtorEq, eq_self, true_or, or_true, or_false, false_or, zbR_some, e2 hx]
      rw [zwr_id (by omega) (by omega), e235_44]
      simp only [e235_0, e235_1, e235_3, e235_6, e235_7, e235_9, e235_12, e235_13, e235_14, e235_16, e235_18, e235_21, e235_22, e235_25, e235_26, e235_27, e235_28, e235_31, e235_34, e235_35, e235_36, e235_39, e235_40, e235_41, e235_42, e235_46, e235_49, e235_52, e235_53, e235_56, e235_57, e235_58, e235_61, e235_63, e235_65, e235_66, e235_69, e235_72, e235_73, e235_75, e235_78, e235_79, e235_82, e235_83, e235_84, e235_87, e235_88, e235_90, e235_93, e235_94, e235_95, e235_98, e235_99, e235_102, e235_105, zU_app, zbI_some, zbV_some, Int.reduceToNat, Int.reduceLE, Int.reduceLT, Int.reduceEq, Nat.reduceEqDiff, and_self, and_true, true_and, and_false, false_and, if_true, if_false, ne_eq, not_true_eq_false, not_false_eq_true, reduceCtorEq, eq_self, true_or, or_true, or_false, false_or, zbR_some]
      by_cases z : 720 ≤ (k : Int) + 1
      · rw [if_pos z]
      · rw [if_neg z]
    · rw [List.foldl_cons, List.foldl_nil]
      exact ⟨by rw [f2 7 0 0 (by omega)]; exact h2.1, fun i hi => by rw [f2 38 0 i (by omega)]; exact h2.2 i hi⟩
  | cons b r ih =>
    intro a k q u5 g ho hch hk hO hB hL
    rw [List.length_cons] at hk
    have hoa := ho a List.mem_cons_self
    obtain ⟨g1, c, e1, h1, h2, f1⟩ := k_seStep hP hW d n v hw hn hv a k q u5 g hoa (by omega) hO hB hL
    have hch' : (decide (nxL n a = some b) && chB n (b :: r)) = true := hch
    rw [Bool.and_eq_true] at hch'
    have hx : nxL n a = some b := of_decide_eq_true hch'.1
    obtain ⟨g2, e2, -, f2⟩ := k_nextOrder d n a g1 h1 hoa.2.2 hn
    obtain ⟨e2, h3⟩ := e2 b hx
    have f2' : Fr sSr g1 g2 := f2.up (fun k j x z => by unfold sSr; omega)
    obtain ⟨g3, e3, h4, f3⟩ := ih b (k + 1) (stp (gtF w n v) q a) (some (.inl c)) g2 (fun o h => ho o (List.mem_cons_of_mem _ h)) hch'.2 (by omega) h3 ⟨by rw [f2 7 0 0 (by omega)]; exact h2.1, fun i hi => by rw [f2 38 0 i (by omega)]; exact h2.2 i hi⟩ ((hL.fr f1).fr f2')
    refine ⟨g3, ?_, by rw [List.foldl_cons]; exact h4, (f1.tr f2').tr f3⟩
    rw [e1]
    simp only [e235_0, e235_1, e235_3, e235_6, e235_7, e235_9, e235_12, e235_13, e235_14, e235_16, e235_18, e235_21, e235_22, e235_25, e235_26, e235_27, e235_28, e235_31, e235_34, e235_35, e235_36, e235_39, e235_40, e235_41, e235_42, e235_46, e235_49, e235_52, e235_53, e235_56, e235_57, e235_58, e235_61, e235_63, e235_65, e235_66, e235_69, e235_72, e235_73, e235_75, e235_78, e235_79, e235_82, e235_83, e235_84, e235_87, e235_88, e235_90, e235_93, e235_94, e235_95, e235_98, e235_99, e235_102, e235_105, zU_app, zbI_some, zbV_some, Int.reduceToNat, Int.reduceLE, Int.reduceLT, Int.reduceEq, Nat.reduceEqDiff, and_self, and_true, true_and, and_false, false_and, if_true, if_false, ne_eq, not_true_eq_false, not_false_eq_true, reduceCtorEq, eq_self, true_or, or_true, or_false, false_or, zbR_some, e2]
    rw [zwr_id (by omega) (by omega), show (k : Int) + 1 = ((k + 1 : Nat) : Int) by omega]
    exact e3
theorem k_so1 (d : Nat) (n v : Int) (u4 u5 : Option zV) : ∀ (m i : Nat) (g : zG), i + m = 6 → ∃ g', Ev d 235 15 [some (.inr (7, 0)), some (.inl n), some (.inl v), some (.inl (i : Int)), u4, u5] [] g = Ev d 235 34 [some (.inr (7, 0)), some (.inl n), some (.inl v), some (.inl 6), u4, u5] [] g' ∧ Fr (fun k a x => k = 37 ∧ a = 0 ∧ i ≤ x) g g' ∧ ∀ x, i ≤ x → x < 6 → g' 37 0 x = (x : Int) := by
  intro m
  induction m with
  | zero =>
    intro i g hi
    have hi : i = 6 := by omega
    subst hi
    refine ⟨g, ?_, Fr.rf, fun x h1 h2 => by omega⟩
    rw [e235_15]
    simp (disch := omega) only [e235_0, e235_1, e235_3, e235_6, e235_7, e235_9, e235_12, e235_13, e235_14, e235_16, e235_18, e235_21, e235_22, e235_25, e235_26, e235_27, e235_28, e235_31, e235_35, e235_36, e235_39, e235_40, e235_41, e235_42, e235_46, e235_49, e235_52, e235_53, e235_56, e235_57, e235_58, e235_61, e235_63, e235_65, e235_66, e235_69, e235_72, e235_73, e235_75, e235_78, e235_79, e235_82, e235_83, e235_84, e235_87, e235_88, e235_90, e235_93, e235_94, e235_95, e235_98, e235_99, e235_102, e235_105, zU_app, zbI_some, zbV_some, Int.reduceToNat, Int.reduceLE, Int.reduceLT, Int.reduceEq, Nat.reduceEqDiff, and_self, and_true, true_and, and_false, false_and, if_true, if_false, ne_eq, not_true_eq_false, not_false_eq_true, reduceCtorEq, eq_self, true_or, or_true, or_false, false_or, zbR_some, zwr_id, if_pos, if_neg]
    rfl
  | succ m ih =>
    intro i g hi
    obtain ⟨g1, e1, f1, h1⟩ := ih (i + 1) (zU g 37 0 i (i : Int)) (by omega)
    refine ⟨g1, ?_, (Fr.u (by omega)).tr (f1.up (fun k a x q => by omega)), fun x h2 h3 => ?_⟩
    · rw [← e1, e235_15]
      simp (disch := omega) only [e235_0, e235_1, e235_3, e235_6, e235_7, e235_9, e235_12, e235_13, e235_14, e235_16, e235_18, e235_21, e235_22, e235_25, e235_26, e235_27, e235_28, e235_31, e235_35, e235_36, e235_39, e235_40, e235_41, e235_42, e235_46, e235_49, e235_52, e235_53, e235_56, e235_57, e235_58, e235_61, e235_63, e235_65, e235_66, e235_69, e235_72, e235_73, e235_75, e235_78, e235_79, e235_82, e235_83, e235_84, e235_87, e235_88, e235_90, e235_93, e235_94, e235_95, e235_98, e235_99, e235_102, e235_105, zU_app, zbI_some, zbV_some, Int.reduceToNat, Int.reduceLE, Int.reduceLT, Int.reduceEq, Nat.reduceEqDiff, and_self, and_true, true_and, and_false, false_and, if_true, if_false, ne_eq, not_true_eq_false, not_false_eq_true, reduceCtorEq, eq_self, true_or, or_true, or_false, false_or, zbR_some, zwr_id, if_pos, if_neg, Int.toNat_natCast]
      rfl
    · by_cases e : x = i
      · subst e
        rw [f1 37 0 x (by omega), zU_eq]
      · exact h1 x (by omega) h3
theorem k_search {w : Nat → Int} {ls : List (List (Int × Int) × List (Int × Int))} (hP : PeOk w) (hW : LwAt w ls) (d n v : Nat) (hw : w 17 = (n : Int)) (hn : 2 ≤ n ∧ n ≤ 6) (hv : 1 ≤ v ∧ v ≤ 60) (g : zG) (hL : LyAt g w n v) : ∃ g', EvM (d + 2) 235 [.inr (7, 0), .inl (n : Int), .inl (v : Int)] g = some (none, g') ∧ BsAt g' (bsW w n v) ∧ Fr sSr g g' := by
  obtain ⟨c1, c2, c3⟩ := ord_ok n (by omega) hn.1
  have hno : ∀ o, o ∈ ordS n n [] → o.Nodup ∧ (∀ x, x ∈ o → x < n) ∧ o.length = n := fun o h => by
    obtain ⟨q1, q2⟩ := ordS_nd n n [] o List.nodup_nil (fun x hx => by cases hx) h
    have q3 := ordS_len n n [] o h
    exact ⟨q1, q2, by simpa using q3⟩
  obtain ⟨g1, e1, f1, h1⟩ := k_so1 (d + 2) n v none none 6 0 g (by omega)
  have f1' : Fr sSr g (zU g1 7 0 0 (-1)) := (f1.up (fun k a x q => by unfold sSr; omega)).tr (Fr.u (by unfold sSr; omega))
  unfold bsW
  rw [stS_ord]
  cases hL' : ordS n n [] with
  | nil => rw [hL'] at c2; cases c2
  | cons a r =>
    rw [hL'] at c1 c2 c3 hno
    have ha : a = List.range n := by
      rw [List.head?_cons] at c2
      exact Option.some.inj c2
    have hO : OrAt (zU g1 7 0 0 (-1)) a := by
      intro i hi
      rw [ha, List.length_range] at hi
      rw [ha, zU_ne (by omega), h1 i (by omega) (by omega), List.getD_eq_getElem?_getD, List.getElem?_range hi]
      rfl
    obtain ⟨g2, e2, h2, f2⟩ := k_seL hP hW d n v hw hn hv r a 0 (-1, []) none (zU g1 7 0 0 (-1)) hno c1 (by omega) hO ⟨rfl, fun i hi => by simp at hi⟩ (hL.fr f1')
    refine ⟨g2, ?_, h2, f1'.tr f2⟩
    rw [en235]
    simp only [e235_0, e235_1, e235_3, e235_6, e235_7, e235_9, e235_12, e235_13, e235_14, e235_16, e235_18, e235_21, e235_22, e235_25, e235_26, e235_27, e235_28, e235_31, e235_35, e235_36, e235_39, e235_40, e235_41, e235_42, e235_46, e235_49, e235_52, e235_53, e235_56, e235_57, e235_58, e235_61, e235_63, e235_65, e235_66, e235_69, e235_72, e235_73, e235_75, e235_78, e235_79, e235_82, e235_83, e235_84, e235_87, e235_88, e235_90, e235_93, e235_94, e235_95, e235_98, e235_99, e235_102, e235_105, zU_app, zbI_some, zbV_some, Int.reduceToNat, Int.reduceLE, Int.reduceLT, Int.reduceEq, Nat.reduceEqDiff, and_self, and_true, true_and, and_false, false_and, if_true, if_false, ne_eq, not_true_eq_false, not_false_eq_true, reduceCtorEq, eq_self, true_or, or_true, or_false, false_or, zbR_some]
    rw [if_neg (by omega), if_pos (by omega), show (0 : Int) = ((0 : Nat) : Int) from rfl, e1]
    simp only [e235_0, e235_1, e235_3, e235_6, e235_7, e235_9, e235_12, e235_13, e235_14, e235_16, e235_18, e235_21, e235_22, e235_25, e235_26, e235_27, e235_28, e235_31, e235_34, e235_35, e235_36, e235_39, e235_40, e235_41, e235_42, e235_46, e235_49, e235_52, e235_53, e235_56, e235_57, e235_58, e235_61, e235_63, e235_65, e235_66, e235_69, e235_72, e235_73, e235_75, e235_78, e235_79, e235_82, e235_83, e235_84, e235_87, e235_88, e235_90, e235_93, e235_94, e235_95, e235_98, e235_99, e235_102, e235_105]
    exact e2
theorem k_seating {w : Nat → Int} {ls : List (List (Int × Int) × List (Int × Int))} (hK : WOk w ls) (d : Nat) (v x : Int) (g : zG) (h : RdAt g 0 w ls) : ∃ g', EvM (d + 6) 231 [.inr (11, 0), .inl v, .inl x] g = some (some (.inl (aSeat w v x)), g') ∧ Fr sTt g g' := by
  have h17 := hK.1.2.2.2.1
  unfold aSeat
  by_cases hc : (2 ≤ w 17 ∧ w 17 ≤ 6) ∧ (1 ≤ v ∧ v ≤ 60) ∧ (x = 0 ∨ (10 ≤ x ∧ x ≤ 9 + w 17))
  · obtain ⟨hn, hv, hx⟩ := hc
    obtain ⟨n, ew⟩ : ∃ n : Nat, w 17 = (n : Int) := ⟨(w 17).toNat, by omega⟩
    obtain ⟨v, rfl⟩ : ∃ q : Nat, v = (q : Int) := ⟨v.toNat, by omega⟩
    have hP := hK.1.2.2.2.2.1 (by omega)
    obtain ⟨g1, e1, f1, h1⟩ := k_layOut hK.2.1 hP hK.2.2.1 hK.2.2.2 d n v (by omega) ew (by omega) g h.cx
    obtain ⟨g2, e2, h2, f2⟩ := k_search hP hK.2.2.1 (d + 3) n v ew (by omega) (by omega) g1 h1
    refine ⟨g2, ?_, f1.tr (f2.up (fun k a x q => by unfold sSr at q; unfold sTt; omega))⟩
    rw [if_pos ⟨hn, hv, hx⟩, ew, Int.toNat_natCast, Int.toNat_natCast, en231]
    have z : zwr (10 + (n : Int)) = 10 + (n : Int) := zwr_id (by omega) (by omega)
    by_cases x0 : x = 0
    · subst x0
      simp (disch := omega) only [e231_0, e231_1, e231_4, e231_7, e231_10, e231_11, e231_12, e231_13, e231_16, e231_17, e231_19, e231_22, e231_23, e231_24, e231_27, e231_28, e231_30, e231_33, e231_34, e231_35, e231_36, e231_39, e231_40, e231_42, e231_45, e231_46, e231_48, e231_49, e231_50, e231_53, e231_54, e231_55, e231_56, e231_59, e231_60, e231_63, e231_64, e231_67, e231_68, e231_71, e231_72, e231_75, e231_76, e231_77, e231_80, e231_81, e231_84, e231_85, e231_88, e231_91, e231_94, e231_95, e231_98, e231_99, e231_101, e231_102, e231_105, zU_app, zbI_some, zbV_some, Int.reduceToNat, Int.reduceLE, Int.reduceLT, Int.reduceEq, Nat.reduceEqDiff, and_self, and_true, true_and, and_false, false_and, if_true, if_false, ne_eq, not_true_eq_false, not_false_eq_true, reduceCtorEq, eq_self, true_or, or_true, or_false, false_or, zbR_some, zwr_id, if_pos, if_neg, h.1.1, ew, e1, e2, h2.1]
    · obtain ⟨q, rfl⟩ : ∃ q : Nat, x = ((10 + q : Nat) : Int) := ⟨(x - 10).toNat, by omega⟩
      have hq : q < n := by omega
      have hb := h2.2 q (by rw [bsW_len (by omega)]; exact hq)
      have ez : zwr (((10 + q : Nat) : Int) - 10) = (q : Int) := by rw [zwr_id (by omega) (by omega)]; omega
      have e3 : EvM (d + 5) 239 [.inr (7, 0), .inl (q : Int)] g2 = some (some (.inl ((bsW w n v).2.getD q 0 : Int)), g2) := by
        rw [en239]
        simp (disch := omega) only [e239_0, e239_1, e239_4, e239_5, e239_7, e239_10, e239_11, e239_14, e239_15, e239_16, e239_19, e239_20, zU_app, zbI_some, zbV_some, Int.reduceToNat, Int.reduceLE, Int.reduceLT, Int.reduceEq, Nat.reduceEqDiff, and_self, and_true, true_and, and_false, false_and, if_true, if_false, ne_eq, not_true_eq_false, not_false_eq_true, reduceCtorEq, eq_self, true_or, or_true, or_false, false_or, zbR_some, zwr_id, if_pos, if_neg, Int.toNat_natCast, hb]
      simp only [e231_0, e231_1, e231_4, e231_7, e231_10, e231_11, e231_12, e231_13, e231_16, e231_17, e231_19, e231_22, e231_23, e231_24, e231_27, e231_28, e231_30, e231_33, e231_34, e231_35, e231_36, e231_39, e231_40, e231_42, e231_45, e231_46, e231_48, e231_49, e231_50, e231_53, e231_54, e231_55, e231_56, e231_59, e231_60, e231_63, e231_64, e231_67, e231_68, e231_71, e231_72, e231_75, e231_76, e231_77, e231_80, e231_81, e231_84, e231_85, e231_88, e231_91, e231_94, e231_95, e231_98, e231_99, e231_101, e231_102, e231_105, zU_app, zbI_some, zbV_some, Int.reduceToNat, Int.reduceLE, Int.reduceLT, Int.reduceEq, Nat.reduceEqDiff, and_self, and_true, true_and, and_false, false_and, if_true, if_false, ne_eq, not_true_eq_false, not_false_eq_true, reduceCtorEq, eq_self, true_or, or_true, or_false, false_or, zbR_some, h.1.1, ew, e1, e2, z, ez, e3]
      rw [if_neg (by omega), if_neg (by omega), if_neg (by omega), if_pos (by omega), if_neg x0, if_neg (by omega), if_pos (by omega), if_pos x0, if_neg x0, show (((10 + q : Nat) : Int) - 10).toNat = q by omega]
  · refine ⟨g, ?_, Fr.rf⟩
    have z : zwr (10 + w 17) = 10 + w 17 := zwr_id (by omega) (by omega)
    rw [if_neg hc, en231]
    simp only [e231_0, e231_1, e231_4, e231_7, e231_10, e231_11, e231_12, e231_13, e231_16, e231_17, e231_19, e231_22, e231_23, e231_24, e231_27, e231_28, e231_30, e231_33, e231_34, e231_35, e231_36, e231_39, e231_40, e231_42, e231_45, e231_46, e231_48, e231_49, e231_50, e231_53, e231_54, e231_55, e231_56, e231_59, e231_60, e231_63, e231_64, e231_67, e231_68, e231_71, e231_72, e231_75, e231_76, e231_77, e231_80, e231_81, e231_84, e231_85, e231_88, e231_91, e231_94, e231_95, e231_98, e231_99, e231_101, e231_102, e231_105, zU_app, zbI_some, zbV_some, Int.reduceToNat, Int.reduceLE, Int.reduceLT, Int.reduceEq, Nat.reduceEqDiff, and_self, and_true, true_and, and_false, false_and, if_true, if_false, ne_eq, not_true_eq_false, not_false_eq_true, reduceCtorEq, eq_self, true_or, or_true, or_false, false_or, zbR_some, h.1.1, z]
    by_cases q1 : w 17 < 2
    · rw [if_pos q1]
    · rw [if_neg q1]
      by_cases q2 : 6 < w 17
      · rw [if_pos q2]
      · rw [if_neg q2]
        by_cases q3 : v < 1
        · rw [if_pos q3]
        · rw [if_neg q3]
          by_cases q4 : v ≤ 60
          · rw [if_pos q4, if_neg (by omega)]
            by_cases q5 : x < 10
            · rw [if_pos q5]
            · rw [if_neg q5, if_neg (by omega)]
          · rw [if_neg q4]
