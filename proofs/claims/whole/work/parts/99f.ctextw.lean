/-! THE CLASS: text, the whole -/
theorem k_compile (d T : Nat) (b : Nat → Int) (v : Int) (hB : ByOk b T) (g : zG) (hT : TpAt g b T) : ∃ g' r, EvM (d + 8) 53 [.inr (4, 0)] g = some (some (.inl r), g') ∧ OutR g' r (Rn (cuN b T) (T + 1 - (cuN b T (0, 0, v, 0)).2.1) (cuN b T (0, 0, v, 0)) (0, 0, false, [], 0, [])) ∧ Fr sCo g g' := by
  obtain ⟨g1, e1, L1, a1, f1⟩ := k_begin (d + 6) g
  have hp : VC T (0, 0, v, 0) := ⟨Nat.le_refl _, Nat.zero_le _, fun z => absurd rfl z⟩
  obtain ⟨v1, -⟩ := cuN_ok (b := b) hp
  have w1 := v1.1
  have w2 := v1.2.1
  have T1 : TpAt g1 b T := hT.on (fun k x q => f1 k 0 x (by unfold sCo sLm sAd; omega))
  obtain ⟨g2, r, e2, O2, f2⟩ := k_coL d T b hB (T + 1 - (cuN b T (0, 0, v, 0)).2.1) 0 (0, 0, v, 0) 0 0 false [] 0 [] none g1 hp T1 a1 L1 ⟨True.intro, by decide, fun z => by cases z⟩ (by decide) (by decide) (by decide) (Nat.zero_le _) (by omega)
  refine ⟨g2, r, ?_, O2, f1.tr f2⟩
  rw [en53]
  simp only [e53_0, e53_1, e53_4, e53_5, e53_7, e53_10, e53_13, e53_14, e53_17, e53_20, e53_21, e53_24, e53_27, e53_30, e53_31, e53_34, e53_37, e53_38, e53_41, e53_42, e53_43, e53_44, e53_45, e53_48, e53_51, e53_54, e53_55, e53_56, e53_59, e53_60, e53_61, e53_64, e53_67, e53_68, zU_app, zbI_some, zbV_some, Int.reduceToNat, Int.reduceLE, Int.reduceLT, Int.reduceEq, Nat.reduceEqDiff, and_self, and_true, true_and, and_false, false_and, if_true, if_false, ne_eq, not_true_eq_false, not_false_eq_true, reduceCtorEq, eq_self, true_or, or_true, or_false, false_or, zbR_some, e1]
  exact e2
theorem dpB_mem : ∀ {s : List (Int × Int)} {n m : Nat}, dpB s n = some m → ∀ o, o ∈ s → ∃ k q, okB o k = some q
  | [], _, _, _, o, h => by cases h
  | x :: s, n, m, hd, o, h => by
    rw [dpB] at hd
    cases hk : okB x n with
    | none => rw [hk] at hd; cases hd
    | some q =>
      rw [hk] at hd
      rcases List.mem_cons.mp h with z | z
      · exact ⟨n, q, by rw [z]; exact hk⟩
      · exact dpB_mem (s := s) hd o z
theorem tr_6 {o : Int × Int} {k q : Nat} (h : okB o k = some q) : (-6 : Int) ∈ tr o ↔ o.1 = 6 := by
  obtain ⟨o1, o2⟩ := o
  unfold okB at h
  unfold tr
  dsimp only at h ⊢
  by_cases h0 : o1 = 0
  · rw [if_pos h0] at h ⊢
    obtain ⟨z, -⟩ := zif h
    simp
    omega
  · rw [if_neg h0] at h ⊢
    by_cases h7 : 1 ≤ o1 ∧ o1 ≤ 7
    · rw [if_pos h7.2]
      simp
      omega
    · rw [if_neg h7] at h
      by_cases h16 : o1 = 16
      · rw [if_pos h16] at h
        rw [if_neg (by omega), if_pos h16]
        obtain ⟨z, -⟩ := zif h
        simp
        omega
      · rw [if_neg h16] at h
        by_cases h20 : o1 = 20
        · rw [if_neg (by omega), if_neg h16, h20]
          decide
        · rw [if_neg h20] at h
          obtain ⟨h3, -⟩ := zif h
          have := chO_rng h3 h16 h20
          rw [if_neg (by omega), if_neg h16]
          simp
          omega
theorem ask_6 {ls : List (List (Int × Int) × List (Int × Int))} (hl : ∀ l, l ∈ ls → LiOk l) : (-6 : Int) ∈ cdL ls ↔ ask ls := by
  have ok : ∀ l, l ∈ ls → ∀ o, (o ∈ l.1 ∨ o ∈ l.2) → ∃ k q, okB o k = some q := by
    intro l h o ho
    obtain ⟨p1, p2⟩ := hl l h
    rcases ho with z | z
    · exact dpB_mem (p1.1 0 (by decide)) o z
    · rcases p2 with y | y
      · rw [y] at z; cases z
      · exact dpB_mem (y.1 0 (by decide)) o z
  unfold cdL
  rw [List.mem_flatMap]
  constructor
  · rintro ⟨l, h, h6⟩
    unfold lnC trL at h6
    rw [List.mem_append, List.mem_append, List.mem_flatMap, List.mem_flatMap, List.mem_singleton] at h6
    rcases h6 with (⟨o, h1, h2⟩ | ⟨o, h1, h2⟩) | h2
    · obtain ⟨k, q, e⟩ := ok l h o (Or.inl h1)
      exact ⟨l, h, o, Or.inl h1, (tr_6 e).mp h2⟩
    · obtain ⟨k, q, e⟩ := ok l h o (Or.inr h1)
      exact ⟨l, h, o, Or.inr h1, (tr_6 e).mp h2⟩
    · split at h2 <;> cases h2
  · rintro ⟨l, h, o, ho, h6⟩
    refine ⟨l, h, ?_⟩
    obtain ⟨k, q, e⟩ := ok l h o ho
    have := (tr_6 e).mpr h6
    unfold lnC trL
    rw [List.mem_append, List.mem_append, List.mem_flatMap, List.mem_flatMap]
    rcases ho with z | z
    · exact Or.inl (Or.inl ⟨o, z, this⟩)
    · exact Or.inl (Or.inr ⟨o, z, this⟩)
def sTc : Nat → Nat → Nat → Prop := fun k a x => sCo k a x ∨ (k = 9 ∧ a = 0) ∨ (k = 11 ∧ a = 0 ∧ (x = 7 ∨ x = 8)) ∨ (a = 0 ∧ ((k = 3 ∧ x < 3) ∨ k = 28))
def OutC (g g' : zG) (r : ((Int × Nat) ⊕ (List (List (Int × Int) × List (Int × Int))))) : Prop :=
  match r with
  | .inl q => g' 11 0 7 = q.1 ∧ g' 11 0 8 = (q.2 : Int) ∧ ∀ k x, (k = 3 ∧ x < 3) ∨ k = 28 → g' k 0 x = g k 0 x
  | .inr ls => g' 11 0 7 = 0 ∧ g' 11 0 8 = -1 ∧ LcAt g' 0 ls ∧ ∀ l, l ∈ ls → LiOk l
set_option maxHeartbeats 1000000 in
theorem k_text (d T F : Nat) (hF : 400 < F) (b : Nat → Int) (v : Int) (hB : ByOk b T) (g : zG) (hT : TpAt g b T) : ∃ g', EvM (d + 9) 52 [.inr (11, 0)] g = some (some (.inl (tRes (aText b T F v))), g') ∧ OutC g g' (aText b T F v) ∧ g' 9 0 0 = 0 ∧ Fr sTc g g' := by
  have hT4 := hT.2.1
  obtain ⟨g1, r, e1, O1, f1⟩ := k_compile d T b v hB g hT
  have hn : NxOk T (cuN b T) := fun c h => cuN_ok h
  have hp : VC T (0, 0, v, 0) := ⟨Nat.le_refl _, Nat.zero_le _, fun z => absurd rfl z⟩
  obtain ⟨v1, -⟩ := cuN_ok (b := b) hp
  obtain ⟨t1, t2⟩ := r_text (F := F) (Rn_rs hn) hn (fun c => toT_tk) (fun c => cuN_vn c) (by omega) F (cuN b T (0, 0, v, 0)) [] 0 false v1 toT_tk (by decide) (by have := v1.1; have := v1.2.1; omega)
  have s1 : g1 9 0 0 = (T : Int) := by rw [f1 9 0 0 (by unfold sCo sLm sAd; omega)]; exact hT.1
  cases ha : aText b T F v with
  | inl q =>
    have e2 := t1 q ha
    have e2 : Rn (cuN b T) (T + 1 - (cuN b T (0, 0, v, 0)).2.1) (cuN b T (0, 0, v, 0)) (0, 0, false, [], 0, []) = .inl q := e2
    rw [e2] at O1
    obtain ⟨o1, o2, o3⟩ := O1
    subst o1
    have kc := fun d => k_cut d 0 (T : Int) (zU (zU g1 11 0 7 q.1) 11 0 8 (q.2 : Int)) s1
    rw [if_pos (by omega)] at kc
    refine ⟨zU (zU (zU g1 11 0 7 q.1) 11 0 8 (q.2 : Int)) 9 0 0 0, ?_, ⟨rfl, rfl, fun k x h => ?_⟩, rfl, (((f1.up (T := sTc) (fun k a x q => Or.inl q)).tr (Fr.u (S := sTc) (Or.inr (Or.inr (Or.inl ⟨rfl, rfl, Or.inl rfl⟩))))).tr (Fr.u (S := sTc) (Or.inr (Or.inr (Or.inl ⟨rfl, rfl, Or.inr rfl⟩))))).tr (Fr.u (S := sTc) (Or.inr (Or.inl ⟨rfl, rfl⟩)))⟩
    · rw [en52]
      simp only [e52_0, e52_1, e52_2, e52_5, e52_8, e52_11, e52_12, e52_13, e52_16, e52_19, e52_20, e52_23, e52_24, e52_27, e52_30, e52_33, e52_36, e52_37, e52_40, e52_43, e52_44, e52_47, e52_48, e52_49, e52_52, e52_55, e52_56, e52_57, e52_58, e52_61, e52_64, e52_65, e52_68, e52_71, e52_74, e52_75, e52_78, e52_81, e52_84, zU_app, zbI_some, zbV_some, Int.reduceToNat, Int.reduceLE, Int.reduceLT, Int.reduceEq, Nat.reduceEqDiff, and_self, and_true, true_and, and_false, false_and, if_true, if_false, ne_eq, not_true_eq_false, not_false_eq_true, reduceCtorEq, eq_self, true_or, or_true, or_false, false_or, zbR_some, e1, o3, kc]
      rw [if_pos o2]
      rw [if_neg o2]
      rfl
    · rw [zU_ne (by omega), zU_ne (by omega), zU_ne (by omega)]
      exact f1 k 0 x (by unfold sCo sLm sAd; omega)
  | inr ls =>
    obtain ⟨Sd', C', e2⟩ := t2 ls ha
    have e2 : Rn (cuN b T) (T + 1 - (cuN b T (0, 0, v, 0)).2.1) (cuN b T (0, 0, v, 0)) (0, 0, false, [], 0, []) = .inr (0, Sd', C', [], ls.length, cdL ls) := e2
    rw [e2] at O1
    obtain ⟨o1, L1, o3⟩ := O1
    subst o1
    obtain ⟨m1, m2, m3, m4, m5⟩ := L1.2.2.2.2.2.2.2
    have hli : ∀ l, l ∈ ls → LiOk l := pText_ok (fun c => cuN_vn c) F _ [] ls (fun l h => by cases h) ha
    have o3 : (cdL ls).length ≤ 400 := o3
    have kc := fun d => k_cut d 0 (T : Int) (zU (zU g1 11 0 7 0) 11 0 8 (-1)) s1
    rw [if_pos (by omega)] at kc
    let g2 := zU (zU (zU g1 11 0 7 0) 11 0 8 (-1)) 9 0 0 0
    have LC : LcAt g2 2 ls := ⟨m1, ⟨m2, o3, by omega, fun q hq => by rw [Nat.zero_add]; exact m3 q hq⟩, m4, m5.trans (ask_6 hli)⟩
    obtain ⟨g3, e3, L3, f3⟩ := k_lcopy (d + 7) 0 2 g2 (by decide) LC
    refine ⟨g3, ?_, ⟨?_, ?_, L3, hli⟩, ?_, ((((f1.up (T := sTc) (fun k a x q => Or.inl q)).tr (Fr.u (S := sTc) (Or.inr (Or.inr (Or.inl ⟨rfl, rfl, Or.inl rfl⟩))))).tr (Fr.u (S := sTc) (Or.inr (Or.inr (Or.inl ⟨rfl, rfl, Or.inr rfl⟩))))).tr (Fr.u (S := sTc) (Or.inr (Or.inl ⟨rfl, rfl⟩)))).tr (f3.up (T := sTc) (fun k a x q => Or.inr (Or.inr (Or.inr ⟨q.2, q.1⟩))))⟩
    · rw [en52]
      simp only [e52_0, e52_1, e52_2, e52_5, e52_8, e52_11, e52_12, e52_13, e52_16, e52_19, e52_20, e52_23, e52_24, e52_27, e52_30, e52_33, e52_36, e52_37, e52_40, e52_43, e52_44, e52_47, e52_48, e52_49, e52_52, e52_55, e52_56, e52_57, e52_58, e52_61, e52_64, e52_65, e52_68, e52_71, e52_74, e52_75, e52_78, e52_81, e52_84, zU_app, zbI_some, zbV_some, Int.reduceToNat, Int.reduceLE, Int.reduceLT, Int.reduceEq, Nat.reduceEqDiff, and_self, and_true, true_and, and_false, false_and, if_true, if_false, ne_eq, not_true_eq_false, not_false_eq_true, reduceCtorEq, eq_self, true_or, or_true, or_false, false_or, zbR_some, e1, kc, show zU (zU (zU g1 11 0 7 0) 11 0 8 (-1)) 9 0 0 0 = g2 from rfl, e3, L3.1]
      rfl
    · rw [f3 11 0 7 (by omega)]; rfl
    · rw [f3 11 0 8 (by omega)]; rfl
    · rw [f3 9 0 0 (by omega)]; rfl
