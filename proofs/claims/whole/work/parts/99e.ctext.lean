/-! THE CLASS: text -/
def Ln (n : Nat) (r : Int ⊕ zPS) : Prop := match r with
  | .inl _ => True
  | .inr S => S.2.2.2.2.1 ≤ n + 1
theorem Ln_if {n : Nat} {p : Prop} [Decidable p] {a b : Int ⊕ zPS} (ha : Ln n a) (hb : Ln n b) : Ln n (if p then a else b) := by split <;> assumption
theorem Ln_r {n m : Nat} {W Sd : Int} {C : Bool} {ws cd : List Int} (h : m ≤ n + 1) : Ln n (.inr (W, Sd, C, ws, m, cd)) := h
theorem Ln_l {n : Nat} {f : Int} : Ln n (.inl f) := True.intro
theorem tQu_n {Sd : Int} {C : Bool} {ws : List Int} {n : Nat} {cd : List Int} {t v : Int} : Ln n (tQu Sd C ws n cd t v) := Ln_if (Ln_r (by omega)) (Ln_if (Ln_r (by omega)) Ln_l)
theorem tQb_n {Sd : Int} {C : Bool} {ws : List Int} {n : Nat} {cd : List Int} {t w : Int} : Ln n (tQb Sd C ws n cd t w) := Ln_r (by omega)
theorem tQj_n {Sd : Int} {C : Bool} {ws : List Int} {n : Nat} {cd : List Int} {t : Int} : Ln n (tQj Sd C ws n cd t) := Ln_if (Ln_r (by omega)) (Ln_if (Ln_if (Ln_r (by omega)) Ln_l) (Ln_if tQb_n (Ln_if (Ln_r (by omega)) Ln_l)))
theorem tQs_n {W Sd : Int} {C : Bool} {ws : List Int} {n : Nat} {cd : List Int} {t v : Int} {S : zPS} (h : tQs W Sd C ws n cd t v = .inr S) : S.2.2.2.2.1 ≤ n + 1 := by
  have : Ln n (tQs W Sd C ws n cd t v) := Ln_if (Ln_if (Ln_if Ln_l (Ln_r (by omega))) Ln_l) (Ln_if (Ln_if (Ln_if Ln_l (Ln_r (by omega))) tQu_n) (Ln_if tQu_n (Ln_if (Ln_if (Ln_if Ln_l tQu_n) Ln_l) (Ln_if (Ln_if tQb_n (Ln_if (Ln_if tQb_n Ln_l) tQj_n)) tQj_n))))
  rw [h] at this
  exact this
theorem toT_tk {b : Nat → Int} {T a : Nat} : TkV (toT b T a) := by
  have hw : ∀ ta e, TkV (wdT b ta e) := by
    intro ta e
    unfold wdT nmT
    repeat' split
    all_goals (unfold TkV; decide)
  unfold toT
  split
  · split
    · exact hw _ _
    · split
      · split <;> (unfold TkV; decide)
      · split
        · rename_i h
          unfold mkS at h
          simp only [Bool.or_eq_true, decide_eq_true_eq] at h
          unfold TkV
          omega
        · unfold TkV; decide
  · unfold TkV; decide
theorem dvS_nn {b : Nat → Int} {ta : Nat} : ∀ (m a : Nat) (v : Int), DvOk ta a v → 0 ≤ dvS b ta m a v
  | 0, a, v, h => h.2.1
  | m + 1, a, v, h => by
    rw [dvS]
    by_cases q : isD (b a) = true
    · rw [if_pos q]
      exact dvS_nn m (a + 1) _ (h.on (isD_rng q))
    · rw [if_neg q]
      exact h.2.1
theorem cuN_vn {b : Nat → Int} {T : Nat} (c : (Int × Nat × Int × Nat)) : VN (cuN b T c) := by
  intro h
  have h : toT b T c.2.2.2 = 2 := h
  show 0 ≤ vaT b T c.2.2.2 c.2.2.1
  unfold vaT
  by_cases q : taT b T c.2.2.2 < T ∧ isL (b (taT b T c.2.2.2)) = false ∧ isD (b (taT b T c.2.2.2)) = true
  · rw [if_pos q]
    exact dvS_nn _ _ _ ⟨by omega, by omega, by omega, fun _ => rfl, fun _ => by omega, fun _ => by omega, fun _ => by omega⟩
  · exfalso
    unfold toT at h
    by_cases h1 : taT b T c.2.2.2 < T
    · rw [if_pos h1] at h
      by_cases h2 : isL (b (taT b T c.2.2.2)) = true
      · rw [if_pos h2] at h
        exact wdT_ne2 _ _ _ h
      · rw [if_neg h2] at h
        by_cases h3 : isD (b (taT b T c.2.2.2)) = true
        · exact q ⟨h1, Bool.eq_false_iff.mpr h2, h3⟩
        · rw [if_neg h3] at h
          by_cases h4 : mkS (b (taT b T c.2.2.2)) = true
          · rw [if_pos h4] at h
            unfold mkS at h4
            simp only [Bool.or_eq_true, decide_eq_true_eq] at h4
            omega
          · rw [if_neg h4] at h
            cases h
    · rw [if_neg h1] at h
      cases h
def sCo : Nat → Nat → Nat → Prop := fun k a x => sLm k a x ∨ sAd k a x
theorem LmAt.ad {g g' : zG} {W Sd : Int} {C : Bool} {ws : List Int} {n : Nat} {cd : List Int} (h : LmAt g W Sd C ws n cd) (hf : Fr sAd g g') : LmAt g' W Sd C ws n cd := h.em (h.2.2.2.2.2.2.2.fr (fun k x q => hf k 2 x (by unfold sAd; omega))) (fun k a x q => hf k a x (by unfold sAd; omega))
/-- what the reading leaves -/
def OutR (g : zG) (r : Int) (res : (Int × Nat) ⊕ zPS) : Prop :=
  match res with
  | .inl q => r = q.1 ∧ q.1 ≠ 0 ∧ g 9 0 3 = (q.2 : Int)
  | .inr S => r = 0 ∧ LmAt g S.1 S.2.1 S.2.2.1 S.2.2.2.1 S.2.2.2.2.1 S.2.2.2.2.2 ∧ S.2.2.2.2.2.length ≤ 400
set_option maxHeartbeats 1000000 in
theorem k_coL (d T : Nat) (b : Nat → Int) (hB : ByOk b T) : ∀ (m k : Nat) (p : (Int × Nat × Int × Nat)) (W Sd : Int) (C : Bool) (ws : List Int) (n : Nat) (cd : List Int) (u : Option zV) (g : zG), VC T p → TpAt g b T → g 9 0 4 = (p.2.2.2 : Int) → LmAt g W Sd C ws n cd → PsI W ws → (0 ≤ W ∧ W ≤ 5) → cd.length + ws.length ≤ k → n ≤ k → k ≤ (cuN b T p).2.1 → T - (cuN b T p).2.1 < m → ∃ g' r, Ev (d + 8) 53 6 [some (.inr (4, 0)), some (.inl (k : Int)), u] [] g = some (some (.inl r), g') ∧ OutR g' r (Rn (cuN b T) m (cuN b T p) (W, Sd, C, ws, n, cd)) ∧ Fr sCo g g' := by
  intro m
  induction m with
  | zero => intro k p W Sd C ws n cd u g hp hT hat hL hI hW hc hn hk hm; omega
  | succ m ih =>
    intro k p W Sd C ws n cd u g hp hT hat hL hI hW hc hn hk hm
    have hT4 := hT.2.1
    obtain ⟨v1, l1⟩ := cuN_ok (b := b) hp
    have w1 := v1.1
    have w2 := v1.2.1
    obtain ⟨g1, e1, a1, a3, a4, a2, f1⟩ := k_advance d T p.2.2.2 b g hT hB hat hp.2.1
    have L1 := hL.ad f1
    have T1 := hT.ad f1
    have c1 : (cuN b T p).1 = toT b T p.2.2.2 := rfl
    have c2 : (cuN b T p).2.1 = taT b T p.2.2.2 := rfl
    have c4 : (cuN b T p).2.2.2 = enT b T p.2.2.2 := rfl
    have tk : TkV (cuN b T p).1 := toT_tk
    have k0 : kT (cuN b T p).1 = 0 ↔ (cuN b T p).1 = 0 := by
      rcases tk.cases with h | h | h | h | h | h | h | h | h | h | h | h | h | h | h | h | h | h | h | h | h | h | h | h | h <;> (rw [h]; decide)
    rw [Rn]
    rw [e53_6]
    by_cases h0 : (cuN b T p).1 = 0
    · rw [if_pos h0]
      have hk0 : g1 9 0 1 = 0 := by rw [a1, ← c1]; exact k0.mpr h0
      by_cases hw : W = 0
      · rw [if_pos hw]
        refine ⟨g1, 0, ?_, ⟨rfl, L1, by show cd.length ≤ 400; omega⟩, f1.up (fun k a x q => Or.inr q)⟩
        simp only [e53_0, e53_1, e53_4, e53_5, e53_7, e53_10, e53_13, e53_14, e53_17, e53_20, e53_21, e53_24, e53_27, e53_30, e53_31, e53_34, e53_37, e53_38, e53_41, e53_42, e53_43, e53_44, e53_45, e53_48, e53_51, e53_54, e53_55, e53_56, e53_59, e53_60, e53_61, e53_64, e53_67, e53_68, zU_app, zbI_some, zbV_some, Int.reduceToNat, Int.reduceLE, Int.reduceLT, Int.reduceEq, Nat.reduceEqDiff, and_self, and_true, true_and, and_false, false_and, if_true, if_false, ne_eq, not_true_eq_false, not_false_eq_true, reduceCtorEq, eq_self, true_or, or_true, or_false, false_or, zbR_some, e1, hk0, L1.1]
        rw [if_neg (by omega), if_neg (fun z => z hw)]
      · rw [if_neg hw]
        refine ⟨g1, 1, ?_, ⟨rfl, by show (1 : Int) ≠ 0; decide, by rw [a3, ← c2]⟩, f1.up (fun k a x q => Or.inr q)⟩
        simp only [e53_0, e53_1, e53_4, e53_5, e53_7, e53_10, e53_13, e53_14, e53_17, e53_20, e53_21, e53_24, e53_27, e53_30, e53_31, e53_34, e53_37, e53_38, e53_41, e53_42, e53_43, e53_44, e53_45, e53_48, e53_51, e53_54, e53_55, e53_56, e53_59, e53_60, e53_61, e53_64, e53_67, e53_68, zU_app, zbI_some, zbV_some, Int.reduceToNat, Int.reduceLE, Int.reduceLT, Int.reduceEq, Nat.reduceEqDiff, and_self, and_true, true_and, and_false, false_and, if_true, if_false, ne_eq, not_true_eq_false, not_false_eq_true, reduceCtorEq, eq_self, true_or, or_true, or_false, false_or, zbR_some, e1, hk0, L1.1]
        rw [if_neg (by omega), if_pos hw]
    · rw [if_neg h0]
      have hlt := v1.2.2 h0
      have hk1 : g1 9 0 1 = kT (cuN b T p).1 := a1
      have hkn : kT (cuN b T p).1 ≠ 0 := fun z => h0 (k0.mp z)
      obtain ⟨k9, -⟩ := kT_spec tk
      obtain ⟨g2, r, e2, R2, f2⟩ := k_take (d + 3) (kT (cuN b T p).1) (cuN b T p).2.2.1 L1 hI (by omega) (by omega) hW (fun z => a2 (k9.mp z) _)
      have f12 : Fr sCo g g2 := (f1.up (fun k a x q => Or.inr q)).tr (f2.up (fun k a x q => Or.inl q))
      have hfst : Ev (d + 8) 53 7 [some (.inr (4, 0)), some (.inl (k : Int)), u] [.inl (k : Int)] g = Ev (d + 8) 53 55 [some (.inr (4, 0)), some (.inl (k : Int)), some (.inl r)] [] g2 := by
        simp only [e53_0, e53_1, e53_4, e53_5, e53_7, e53_10, e53_13, e53_14, e53_17, e53_20, e53_21, e53_24, e53_27, e53_30, e53_31, e53_34, e53_37, e53_38, e53_41, e53_42, e53_43, e53_44, e53_45, e53_48, e53_51, e53_54, e53_56, e53_59, e53_60, e53_61, e53_64, e53_67, e53_68, zU_app, zbI_some, zbV_some, Int.reduceToNat, Int.reduceLE, Int.reduceLT, Int.reduceEq, Nat.reduceEqDiff, and_self, and_true, true_and, and_false, false_and, if_true, if_false, ne_eq, not_true_eq_false, not_false_eq_true, reduceCtorEq, eq_self, true_or, or_true, or_false, false_or, zbR_some, e1, hk1, e2]
        rw [if_neg (by omega), if_pos hkn]
      rw [hfst]
      cases hu : tQs W Sd C ws n cd (kT (cuN b T p).1) (cuN b T p).2.2.1 with
      | inl f =>
        rw [hu] at R2
        obtain ⟨R2, R3⟩ := R2
        subst R2
        refine ⟨g2, r, ?_, ⟨rfl, R3, ?_⟩, f12⟩
        · simp only [e53_0, e53_1, e53_4, e53_5, e53_7, e53_10, e53_13, e53_14, e53_17, e53_20, e53_21, e53_24, e53_27, e53_30, e53_31, e53_34, e53_37, e53_38, e53_41, e53_42, e53_43, e53_44, e53_45, e53_48, e53_51, e53_54, e53_55, e53_56, e53_59, e53_60, e53_61, e53_64, e53_67, e53_68, zU_app, zbI_some, zbV_some, Int.reduceToNat, Int.reduceLE, Int.reduceLT, Int.reduceEq, Nat.reduceEqDiff, and_self, and_true, true_and, and_false, false_and, if_true, if_false, ne_eq, not_true_eq_false, not_false_eq_true, reduceCtorEq, eq_self, true_or, or_true, or_false, false_or, zbR_some]
          rw [if_neg R3]
        · rw [f2 9 0 3 (by unfold sLm; omega), a3, ← c2]
      | inr S =>
        have hS := tQs_n hu
        rw [hu] at R2
        obtain ⟨R2, L2, I2, len2, W2⟩ := R2
        subst R2
        obtain ⟨W', Sd', C', ws', n', cd'⟩ := S
        have T2 : TpAt g2 b T := T1.on (fun k x q => f2 k 0 x (by unfold sLm; omega))
        obtain ⟨v2, l2⟩ := cuN_ok (b := b) v1
        have w3 := v2.1
        have w4 := v2.2.1
        have hS : n' ≤ n + 1 := hS
        have len2 : cd'.length + ws'.length ≤ cd.length + ws.length + 1 := len2
        obtain ⟨g3, r3, e3, O3, f3⟩ := ih (k + 1) (cuN b T p) W' Sd' C' ws' n' cd' (some (.inl 0)) g2 v1 T2 (by rw [f2 9 0 4 (by unfold sLm; omega), a4, ← c4]) L2 I2 W2 (by omega) (by omega) (by omega) (by omega)
        refine ⟨g3, r3, ?_, O3, f12.tr f3⟩
        rw [← e3]
        simp only [e53_0, e53_1, e53_4, e53_5, e53_7, e53_10, e53_13, e53_14, e53_17, e53_20, e53_21, e53_24, e53_27, e53_30, e53_31, e53_34, e53_37, e53_38, e53_41, e53_42, e53_43, e53_44, e53_45, e53_48, e53_51, e53_54, e53_55, e53_56, e53_59, e53_60, e53_61, e53_64, e53_67, e53_68, zU_app, zbI_some, zbV_some, Int.reduceToNat, Int.reduceLE, Int.reduceLT, Int.reduceEq, Nat.reduceEqDiff, and_self, and_true, true_and, and_false, false_and, if_true, if_false, ne_eq, not_true_eq_false, not_false_eq_true, reduceCtorEq, eq_self, true_or, or_true, or_false, false_or, zbR_some]
        rw [zwr_id (by omega) (by omega)]
        rfl
theorem k_begin (d : Nat) (g : zG) : ∃ g', EvM (d + 1) 54 [.inr (4, 0)] g = some (none, g') ∧ LmAt g' 0 0 false [] 0 [] ∧ g' 9 0 4 = 0 ∧ Fr sCo g g' := by
  refine ⟨zU (zU (zU (zU (zU (zU (zU (zU (zU (zU g 9 0 4 0) 3 2 0 0) 3 2 1 0) 3 2 2 0) 4 0 2 0) 4 0 3 0) 4 0 4 0) 4 0 5 0) 4 0 6 0) 4 0 8 0, ?_, ⟨rfl, rfl, rfl, rfl, rfl, rfl, fun k hk => by simp at hk, rfl, rfl, fun i hi => by simp at hi, Or.inl rfl, ⟨fun z => (by cases z), fun z => (by cases z)⟩⟩, rfl, ?_⟩
  · have e1 : ∀ d g, EvM d 55 [.inr (9, 0)] g = some (none, zU g 9 0 4 0) := fun d g => by
      rw [en55]
      simp only [e55_0, e55_1, e55_2, e55_5]
    have e2 : ∀ d g, EvM d 56 [.inr (3, 2)] g = some (none, zU (zU (zU g 3 2 0 0) 3 2 1 0) 3 2 2 0) := fun d g => by
      rw [en56]
      simp only [e56_0, e56_1, e56_2, e56_5, e56_6, e56_7, e56_10, e56_11, e56_12, e56_15, zU_app, zbI_some, zbV_some, Int.reduceToNat, Int.reduceLE, Int.reduceLT, Int.reduceEq, Nat.reduceEqDiff, and_self, and_true, true_and, and_false, false_and, if_true, if_false, ne_eq, not_true_eq_false, not_false_eq_true, reduceCtorEq, eq_self, true_or, or_true, or_false, false_or, zbR_some]
    rw [en54]
    simp only [e54_0, e54_1, e54_4, e54_7, e54_8, e54_11, e54_14, e54_15, e54_16, e54_19, e54_20, e54_21, e54_24, e54_25, e54_26, e54_29, e54_30, e54_31, e54_34, e54_35, e54_36, e54_39, e54_40, e54_41, e54_44, zU_app, zbI_some, zbV_some, Int.reduceToNat, Int.reduceLE, Int.reduceLT, Int.reduceEq, Nat.reduceEqDiff, and_self, and_true, true_and, and_false, false_and, if_true, if_false, ne_eq, not_true_eq_false, not_false_eq_true, reduceCtorEq, eq_self, true_or, or_true, or_false, false_or, zbR_some, e1, e2]
  · have F : ∀ k a x, sCo k a x → ∀ (g : zG) (v : Int), Fr sCo g (zU g k a x v) := fun k a x h g v => Fr.u h
    exact (((((((((F 9 0 4 (by unfold sCo sLm sAd; omega) _ _).tr (F 3 2 0 (by unfold sCo sLm sAd; omega) _ _)).tr (F 3 2 1 (by unfold sCo sLm sAd; omega) _ _)).tr (F 3 2 2 (by unfold sCo sLm sAd; omega) _ _)).tr (F 4 0 2 (by unfold sCo sLm sAd; omega) _ _)).tr (F 4 0 3 (by unfold sCo sLm sAd; omega) _ _)).tr (F 4 0 4 (by unfold sCo sLm sAd; omega) _ _)).tr (F 4 0 5 (by unfold sCo sLm sAd; omega) _ _)).tr (F 4 0 6 (by unfold sCo sLm sAd; omega) _ _)).tr (F 4 0 8 (by unfold sCo sLm sAd; omega) _ _)
