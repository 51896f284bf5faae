/-! the model: what holds of its row, and playing -/
def MOk (w : Nat → Int) : Prop := RuOk w ∧ w 18 ≤ 6 ∧ LwOk w ∧ (0 ≤ w 17 ∧ w 17 ≤ 8) ∧ (0 < w 17 → PeOk w) ∧ NoOk w ∧ GlOk w ∧ (0 ≤ w 6 ∧ w 6 ≤ 100)
theorem pgW_ne {w : Nat → Int} {p i : Nat} {v : Int} (h : i < 80 ∨ 480 ≤ i) (h6 : i ≠ 6) (hw : 0 ≤ w 6) : pgW w p v i = w i := by
  unfold pgW
  by_cases q : w 6 < 100
  · rw [if_pos q, uW_ne h6, uW_ne (by omega), uW_ne (by omega), uW_ne (by omega), uW_ne (by omega)]
  · rw [if_neg q]
theorem rsW_ne {w : Nat → Int} {i : Nat} (h : i ≠ 0) (h' : i ≠ 2) (h'' : i ≠ 3) : rsW w i = w i := by unfold rsW; rw [uW_ne h'', uW_ne h', uW_ne h]
theorem mvW_ne {w : Nat → Int} {n s wy t : Int} {i : Nat} (h : 4 ≤ i) : mvW w n s wy t i = w i := by unfold mvW; rw [uW_ne (by omega), uW_ne (by omega), uW_ne (by omega), uW_ne (by omega)]
theorem mvW_at (w : Nat → Int) (n s wy t : Int) : mvW w n s wy t 0 = n ∧ mvW w n s wy t 1 = s ∧ mvW w n s wy t 2 = wy ∧ mvW w n s wy t 3 = t := ⟨rfl, rfl, rfl, rfl⟩
theorem erW_ne {w : Nat → Int} {p i : Nat} {v : Int} (hp : p < 8) (hw : 0 ≤ w 6) (h : i = 1 ∨ (i < 80 ∧ 17 ≤ i) ∨ 480 ≤ i ∨ i = 4 ∨ i = 5 ∨ i = 7 ∨ i = 8) : erW w p v i = w i := by
  unfold erW
  have : gmW w p 6 = w 6 := gmW_ne (by omega)
  rw [rsW_ne (by omega) (by omega) (by omega), pgW_ne (by omega) (by omega) (by omega), gmW_ne (by omega)]
theorem erW_gl {w : Nat → Int} {p : Nat} {v : Int} (hp : p < 8) (hw : 0 ≤ w 6) (hg : GlOk w) : GlOk (erW w p v) := by
  have : gmW w p 6 = w 6 := gmW_ne (by omega)
  apply GlOk.cg _ (gmW_ok hg hp)
  intro i hi
  unfold erW
  rw [rsW_ne (by omega) (by omega) (by omega), pgW_ne (by omega) (by omega) (by omega)]
theorem erW_6 {w : Nat → Int} {p : Nat} {v : Int} (hp : p < 8) (h : 0 ≤ w 6 ∧ w 6 ≤ 100) : 0 ≤ erW w p v 6 ∧ erW w p v 6 ≤ 100 := by
  have : gmW w p 6 = w 6 := gmW_ne (by omega)
  unfold erW
  rw [rsW_ne (by omega) (by omega) (by omega)]
  unfold pgW
  rw [this]
  by_cases q : w 6 < 100
  · rw [if_pos q, uW_eq]; omega
  · rw [if_neg q, this]; exact h
theorem paN_lik {w : Nat → Int} (h : MOk w) (hp : 0 < w 17) : Lik w (paN w) := by
  have h1 : 0 ≤ w 1 ∧ w 1 < w 17 := ⟨h.2.2.2.2.2.1.2.1.1, h.2.2.2.2.2.1.2.1.2 hp⟩
  have w2 : paW w < 8 := (whoW_spec (h.2.2.2.2.1 hp) h1.1 h1.2).2.1
  refine ⟨h.1.2.1, fun i hi => ?_⟩
  unfold paN
  rw [uW_ne (by omega)]
  cases paB w with
  | true => rw [if_pos rfl, erW_ne (w := drW w (oaW w)) (i := i) w2 (by rw [drW_ne (by omega)]; exact h.2.2.2.2.2.2.2.1) (by omega), drW_ne (by omega)]
  | false => rw [if_neg (by decide), mvW_ne (by omega), onW_ne (by omega) (by omega), drW_ne (by omega)]
theorem paN_ok {w : Nat → Int} (h : MOk w) (hp : 0 < w 17) : MOk (paN w) := by
  have hl := paN_lik h hp
  obtain ⟨a1, a2, a3, a4, a5, a6, a7, a8⟩ := h
  have h1 : 0 ≤ w 1 ∧ w 1 < w 17 := ⟨a6.2.1.1, a6.2.1.2 hp⟩
  have w2 : paW w < 8 := (whoW_spec (a5 hp) h1.1 h1.2).2.1
  have e17 : paN w 17 = w 17 := hl.2 17 (by omega)
  have d6 : drW w (oaW w) 6 = w 6 := drW_ne (by omega)
  refine ⟨hl.ru a1, by rw [hl.2 18 (by omega)]; exact a2, hl.lw a3, by rw [e17]; exact a4, fun _ => hl.pe (a5 hp), ?_, ?_, ?_⟩
  · unfold NoOk
    rw [e17]
    unfold paN
    rw [uW_ne (by omega), uW_ne (by omega), uW_ne (by omega), uW_ne (by omega)]
    cases paB w with
    | true =>
      rw [if_pos rfl, erW_ne (w := drW w (oaW w)) (i := 1) w2 (by rw [d6]; exact a8.1) (by omega), drW_ne (by omega)]
      exact ⟨by show (0 : Int) < 1 ∧ (1 : Int) < 10000; omega, ⟨h1.1, fun _ => h1.2⟩, Or.inl rfl, Or.inl rfl⟩
    | false =>
      rw [if_neg (by decide)]
      have hc : CuOk w (w 0).toNat (w 1) (w 2) := ⟨by have := a6.1; omega, h1, a6.2.2.1⟩
      have := hc.on hp
      obtain ⟨m0, m1, m2, m3⟩ := mvW_at (onW (drW w (oaW w)) (w 0)) (nxN (w 0).toNat) (seW w (w 0).toNat (w 1) (w 2)) (wyW w (w 0).toNat (w 2)) (tuW w (w 0).toNat)
      rw [m0, m1, m2, m3]
      refine ⟨by have := this.1; omega, ⟨this.2.1.1, fun _ => this.2.1.2⟩, this.2.2, ?_⟩
      unfold tuW
      omega
  · unfold paN
    apply GlOk.cg (w := if paB w then erW (drW w (oaW w)) (paW w) (w 0) else mvW (onW (drW w (oaW w)) (w 0)) (nxN (w 0).toNat) (seW w (w 0).toNat (w 1) (w 2)) (wyW w (w 0).toNat (w 2)) (tuW w (w 0).toNat))
    · intro i hi
      rw [uW_ne (by omega)]
    · cases paB w with
      | true =>
        rw [if_pos rfl]
        exact erW_gl w2 (by rw [d6]; exact a8.1) (a7.cg (fun i hi => drW_ne (by omega)))
      | false =>
        rw [if_neg (by decide)]
        exact a7.cg (fun i hi => by rw [mvW_ne (by omega), onW_ne (by omega) (by omega), drW_ne (by omega)])
  · unfold paN
    rw [uW_ne (by omega)]
    cases paB w with
    | true =>
      rw [if_pos rfl]
      exact erW_6 w2 (by rw [d6]; exact a8)
    | false =>
      rw [if_neg (by decide), mvW_ne (by omega), onW_ne (by omega) (by omega), d6]
      exact a8
def pyS : Nat → (Nat → Int) → Nat → (Nat → Nat → Int) → Int → (Nat → Int) × Nat × (Nat → Nat → Int) × Int
  | 0, w, n, f, c => (w, n, f, c)
  | m + 1, w, n, f, c => pyS m (paN w) (hiN n) (hiF n f w) (c + if paB w then 1 else 0)
def sPl : Nat → Nat → Nat → Prop := fun k j i => sPa k j i ∨ sHi k j i
theorem m_playL (d : Nat) (k : Int) (hk : k ≤ 200) : ∀ (m i : Nat) (w : Nat → Int) (n : Nat) (f : Nat → Nat → Int) (c : Int) (g : zG), ((i + m : Nat) : Int) = k → g 46 0 = w → MOk w → 0 < w 17 → HiAt g n f → (0 ≤ c ∧ c ≤ i) → ∃ g', Ev (d + 5) 162 27 [some (.inr (12, 0)), some (.inl k), some (.inl c), some (.inl (i : Int))] [] g = some (some (.inl (pyS m w n f c).2.2.2), g') ∧ g' 46 0 = (pyS m w n f c).1 ∧ MOk (pyS m w n f c).1 ∧ (pyS m w n f c).1 17 = w 17 ∧ HiAt g' (pyS m w n f c).2.1 (pyS m w n f c).2.2.1 ∧ Fr sPl g g' := by
  intro m
  induction m with
  | zero =>
    intro i w n f c g h hw hM hp hH hc
    refine ⟨g, ?_, hw, hM, rfl, hH, Fr.rf⟩
    rw [e162_27]
    simp only [e162_0, e162_1, e162_2, e162_5, e162_8, e162_11, e162_12, e162_15, e162_17, e162_18, e162_21, e162_22, e162_23, e162_24, e162_25, e162_26, e162_28, e162_29, e162_32, e162_33, e162_36, e162_37, e162_38, e162_41, e162_44, e162_45, e162_48, e162_49, e162_50, e162_51, e162_54, e162_57, e162_58, zU_app, zbI_some, zbV_some, Int.reduceToNat, Int.reduceLE, Int.reduceLT, Int.reduceEq, Nat.reduceEqDiff, and_self, and_true, true_and, and_false, false_and, if_true, if_false, ne_eq, not_true_eq_false, not_false_eq_true, reduceCtorEq]
    rw [if_pos (by omega)]
    rfl
  | succ m ih =>
    intro i w n f c g h hw hM hp hH hc
    obtain ⟨g1, a1, a2, a3⟩ := m_keeps (d + 4) n f g hH
    have hw1 : g1 46 0 = w := (a3.fn (fun i => by simp [sHi])).trans hw
    rw [hw] at a2
    obtain ⟨g2, b1, b2, b3⟩ := m_plays hM.1 hM.2.2.1 (hM.2.2.2.2.1 hp) hM.2.2.2.2.2.1 hM.2.2.2.2.2.2.1 hM.2.2.2.2.2.2.2 d g1 hw1
    have hH2 : HiAt g2 (hiN n) (hiF n f w) := by
      refine ⟨?_, a2.2.1, fun q hq i hi => ?_⟩
      · rw [b3 12 0 3 (by simp [sPa, sCur])]; exact a2.1
      · rw [b3 48 0 _ (by simp [sPa, sCur])]; exact a2.2.2 q hq i hi
    have e17 : paN w 17 = w 17 := (paN_lik hM hp).2 17 (by omega)
    have hcc : 0 ≤ c + (if paB w then 1 else 0) ∧ c + (if paB w then 1 else 0) ≤ ((i + 1 : Nat) : Int) := by split <;> omega
    obtain ⟨g3, c1, c2, c3, c4, c5, c6⟩ := ih (i + 1) (paN w) (hiN n) (hiF n f w) (c + if paB w then 1 else 0) g2 (by omega) b2 (paN_ok hM hp) (by rw [e17]; exact hp) hH2 hcc
    refine ⟨g3, ?_, c2, c3, c4.trans e17, c5, ((a3.up (fun _ _ _ q => Or.inr q)).tr (b3.up (fun _ _ _ q => Or.inl q))).tr c6⟩
    rw [pyS, ← c1, e162_27]
    simp only [e162_0, e162_1, e162_2, e162_5, e162_8, e162_11, e162_12, e162_15, e162_17, e162_18, e162_21, e162_22, e162_23, e162_24, e162_25, e162_26, e162_28, e162_29, e162_32, e162_33, e162_36, e162_37, e162_38, e162_41, e162_44, e162_45, e162_48, e162_49, e162_50, e162_51, e162_54, e162_57, e162_58, zU_app, zbI_some, zbV_some, Int.reduceToNat, Int.reduceLE, Int.reduceLT, Int.reduceEq, Nat.reduceEqDiff, and_self, and_true, true_and, and_false, false_and, if_true, if_false, ne_eq, not_true_eq_false, not_false_eq_true, reduceCtorEq, a1, b1]
    rw [if_neg (by omega), zwr_id (x := (i : Int) + 1) (by omega) (by omega), zwr_id (x := c + 1) (by omega) (by omega), zwr_id (x := c + 0) (by omega) (by omega)]
    cases paB w with
    | true => rw [zb_t rfl, if_neg (by decide), if_pos rfl]; rfl
    | false => rw [zb_f (by decide), if_pos rfl, if_neg (by decide)]; rfl
def aPlay (w : Nat → Int) (n : Nat) (f : Nat → Nat → Int) (k : Int) : (Nat → Int) × Nat × (Nat → Nat → Int) × Int := if (1 ≤ k ∧ k ≤ 200) ∧ w 17 ≠ 0 then pyS k.toNat w n f 0 else (w, n, f, -1)
theorem m_play {w : Nat → Int} (hM : MOk w) (d n : Nat) (f : Nat → Nat → Int) (k : Int) (g : zG) (hw : g 46 0 = w) (hH : HiAt g n f) : ∃ g', EvM (d + 5) 162 [.inr (12, 0), .inl k] g = some (some (.inl (aPlay w n f k).2.2.2), g') ∧ g' 46 0 = (aPlay w n f k).1 ∧ MOk (aPlay w n f k).1 ∧ HiAt g' (aPlay w n f k).2.1 (aPlay w n f k).2.2.1 ∧ Fr sPl g g' := by
  unfold aPlay
  by_cases h1 : 1 ≤ k ∧ k ≤ 200
  · by_cases h2 : w 17 = 0
    · rw [if_neg (fun q => q.2 h2)]
      refine ⟨g, ?_, hw, hM, hH, Fr.rf⟩
      rw [en162]
      simp only [e162_0, e162_1, e162_2, e162_5, e162_8, e162_11, e162_12, e162_15, e162_17, e162_18, e162_21, e162_22, e162_23, e162_24, e162_25, e162_26, e162_28, e162_29, e162_32, e162_33, e162_36, e162_37, e162_38, e162_41, e162_44, e162_45, e162_48, e162_49, e162_50, e162_51, e162_54, e162_57, e162_58, zU_app, zbI_some, zbV_some, Int.reduceToNat, Int.reduceLE, Int.reduceLT, Int.reduceEq, Nat.reduceEqDiff, and_self, and_true, true_and, and_false, false_and, if_true, if_false, ne_eq, not_true_eq_false, not_false_eq_true, reduceCtorEq, m_isIn, zb_t h1, hw, h2]
    · rw [if_pos ⟨h1, h2⟩]
      obtain ⟨g', c1, c2, c3, c4, c5, c6⟩ := m_playL d k h1.2 k.toNat 0 w n f 0 g (by omega) hw hM (by have := hM.2.2.2.1; omega) hH (by omega)
      refine ⟨g', ?_, c2, c3, c5, c6⟩
      rw [← c1, en162]
      simp only [e162_0, e162_1, e162_2, e162_5, e162_8, e162_11, e162_12, e162_15, e162_17, e162_18, e162_21, e162_22, e162_23, e162_24, e162_25, e162_26, e162_28, e162_29, e162_32, e162_33, e162_36, e162_37, e162_38, e162_41, e162_44, e162_45, e162_48, e162_49, e162_50, e162_51, e162_54, e162_57, e162_58, zU_app, zbI_some, zbV_some, Int.reduceToNat, Int.reduceLE, Int.reduceLT, Int.reduceEq, Nat.reduceEqDiff, and_self, and_true, true_and, and_false, false_and, if_true, if_false, ne_eq, not_true_eq_false, not_false_eq_true, reduceCtorEq, m_isIn, zb_t h1, hw]
      rw [if_pos h2]
      rfl
  · rw [if_neg (fun q => h1 q.1)]
    refine ⟨g, ?_, hw, hM, hH, Fr.rf⟩
    rw [en162]
    simp only [e162_0, e162_1, e162_2, e162_5, e162_8, e162_11, e162_12, e162_15, e162_17, e162_18, e162_21, e162_22, e162_23, e162_24, e162_25, e162_26, e162_28, e162_29, e162_32, e162_33, e162_36, e162_37, e162_38, e162_41, e162_44, e162_45, e162_48, e162_49, e162_50, e162_51, e162_54, e162_57, e162_58, zU_app, zbI_some, zbV_some, Int.reduceToNat, Int.reduceLE, Int.reduceLT, Int.reduceEq, Nat.reduceEqDiff, and_self, and_true, true_and, and_false, false_and, if_true, if_false, ne_eq, not_true_eq_false, not_false_eq_true, reduceCtorEq, m_isIn, zb_f h1]
