/-! the grammar goes on -/
theorem pPro_prg {T m : Nat} {nx : (Int × Nat × Int × Nat) → (Int × Nat × Int × Nat)} (hn : NxOk T nx) {c : (Int × Nat × Int × Nat)} (h : VC T c) : Prg T c (pPro nx m c) := by
  intro c' s' e
  obtain ⟨c1, t, e1, e2⟩ := bnd_inr e
  obtain ⟨a1, a2, a3⟩ := pUnit_prg hn h c1 t e1
  obtain ⟨b1, b2, b3⟩ := pProL_prg hn m c1 t a1 c' s' e2
  exact ⟨b1, by omega, by omega⟩
theorem pSumL_prg {T F : Nat} {nx : (Int × Nat × Int × Nat) → (Int × Nat × Int × Nat)} (hn : NxOk T nx) : ∀ (m : Nat) (c : (Int × Nat × Int × Nat)) (s : List (Int × Int)), VC T c → ∀ c' s', pSumL nx F m c s = .inr (c', s') → VC T c' ∧ c.2.1 + s'.length ≤ c'.2.1 + s.length ∧ c.2.1 ≤ c'.2.1 := by
  intro m
  induction m with
  | zero =>
    intro c s h c' s' e
    cases e
    exact ⟨h, by omega, by omega⟩
  | succ m ih =>
    intro c s h c' s' e
    rw [pSumL] at e
    obtain ⟨h1, h2⟩ := hn c h
    by_cases q : c.1 = 143 ∨ c.1 = 145
    · rw [if_pos q] at e
      have := h.2.2 (by omega)
      obtain ⟨c2, t, e1, e2⟩ := bnd_inr e
      obtain ⟨a1, a2, a3⟩ := pPro_prg hn h1 c2 t e1
      obtain ⟨b1, b2, b3⟩ := ih _ _ a1 c' s' e2
      rw [List.length_append, List.length_append, List.length_singleton] at b2
      exact ⟨b1, by omega, by omega⟩
    · rw [if_neg q] at e
      cases e
      exact ⟨h, by omega, by omega⟩
theorem pSum_prg {T F : Nat} {nx : (Int × Nat × Int × Nat) → (Int × Nat × Int × Nat)} (hn : NxOk T nx) {c : (Int × Nat × Int × Nat)} (h : VC T c) : Prg T c (pSum nx F c) := by
  intro c' s' e
  obtain ⟨c1, t, e1, e2⟩ := bnd_inr e
  obtain ⟨a1, a2, a3⟩ := pPro_prg hn h c1 t e1
  obtain ⟨b1, b2, b3⟩ := pSumL_prg hn _ c1 t a1 c' s' e2
  exact ⟨b1, by omega, by omega⟩
theorem pJoL_prg {T : Nat} {nx : (Int × Nat × Int × Nat) → (Int × Nat × Int × Nat)} {one : (Int × Nat × Int × Nat) → ((Int × Nat) ⊕ ((Int × Nat × Int × Nat) × List (Int × Int)))} {w o : Int} (hw : w ≠ 0) (hn : NxOk T nx) (ho : ∀ c, VC T c → Prg T c (one c)) : ∀ (m : Nat) (c : (Int × Nat × Int × Nat)) (s : List (Int × Int)), VC T c → ∀ c' s', pJoL nx one w o m c s = .inr (c', s') → VC T c' ∧ c.2.1 + s'.length ≤ c'.2.1 + s.length ∧ c.2.1 ≤ c'.2.1 := by
  intro m
  induction m with
  | zero =>
    intro c s h c' s' e
    cases e
    exact ⟨h, by omega, by omega⟩
  | succ m ih =>
    intro c s h c' s' e
    rw [pJoL] at e
    obtain ⟨h1, h2⟩ := hn c h
    by_cases q : c.1 = w
    · rw [if_pos q] at e
      have := h.2.2 (by omega)
      obtain ⟨c2, t, e1, e2⟩ := bnd_inr e
      obtain ⟨a1, a2, a3⟩ := ho _ h1 c2 t e1
      obtain ⟨b1, b2, b3⟩ := ih _ _ a1 c' s' e2
      rw [List.length_append, List.length_append, List.length_singleton] at b2
      exact ⟨b1, by omega, by omega⟩
    · rw [if_neg q] at e
      cases e
      exact ⟨h, by omega, by omega⟩
theorem pJo_prg {T F : Nat} {nx : (Int × Nat × Int × Nat) → (Int × Nat × Int × Nat)} {one : (Int × Nat × Int × Nat) → ((Int × Nat) ⊕ ((Int × Nat × Int × Nat) × List (Int × Int)))} {w o : Int} (hw : w ≠ 0) (hn : NxOk T nx) (ho : ∀ c, VC T c → Prg T c (one c)) {c : (Int × Nat × Int × Nat)} (h : VC T c) : Prg T c (pJo nx one w o F c) := by
  intro c' s' e
  obtain ⟨c1, t, e1, e2⟩ := bnd_inr e
  obtain ⟨a1, a2, a3⟩ := ho c h c1 t e1
  obtain ⟨b1, b2, b3⟩ := pJoL_prg hw hn ho _ c1 t a1 c' s' e2
  exact ⟨b1, by omega, by omega⟩
theorem cmO_0 {t : Int} (h : cmO t ≠ -1) : t ≠ 0 := fun e => h (by rw [e]; rfl)
theorem pCmp_prg {T F : Nat} {nx : (Int × Nat × Int × Nat) → (Int × Nat × Int × Nat)} (hn : NxOk T nx) {c : (Int × Nat × Int × Nat)} (h : VC T c) : Prg T c (pCmp nx F c) := by
  intro c' s' e
  obtain ⟨c1, t, e1, e2⟩ := bnd_inr e
  obtain ⟨a1, a2, a3⟩ := pSum_prg hn h c1 t e1
  by_cases q : cmO c1.1 = -1
  · rw [if_pos q] at e2; cases e2
  · rw [if_neg q] at e2
    obtain ⟨c2, u, e3, e4⟩ := bnd_inr e2
    obtain ⟨h1, h2⟩ := hn c1 a1
    have := a1.2.2 (cmO_0 q)
    obtain ⟨b1, b2, b3⟩ := pSum_prg hn h1 c2 u e3
    cases e4
    rw [List.length_append, List.length_append, List.length_singleton]
    exact ⟨b1, by omega, by omega⟩
theorem pOne_prg {T F : Nat} {nx : (Int × Nat × Int × Nat) → (Int × Nat × Int × Nat)} (hn : NxOk T nx) : ∀ (k : Nat) {c : (Int × Nat × Int × Nat)}, VC T c → Prg T c (pOne nx F k c) := by
  intro k
  induction k with
  | zero =>
    intro c h c' s' e
    rw [pOne] at e
    by_cases q : c.1 = 6 ∨ c.1 = 140
    · rw [if_pos q] at e; cases e
    · rw [if_neg q] at e
      exact pCmp_prg hn h c' s' e
  | succ k ih =>
    intro c h c' s' e
    rw [pOne] at e
    obtain ⟨h1, h2⟩ := hn c h
    by_cases q : c.1 = 6
    · rw [if_pos q] at e
      have := h.2.2 (by omega)
      obtain ⟨c1, t, e1, e2⟩ := bnd_inr e
      obtain ⟨a1, a2, a3⟩ := ih h1 c1 t e1
      cases e2
      rw [List.length_append, List.length_singleton]
      exact ⟨a1, by omega, by omega⟩
    · rw [if_neg q] at e
      by_cases q2 : c.1 = 140
      · rw [if_pos q2] at e
        have := h.2.2 (by omega)
        obtain ⟨c1, t, e1, e2⟩ := bnd_inr e
        obtain ⟨a1, a2, a3⟩ := pJo_prg (by decide) hn (fun c hc => pJo_prg (by decide) hn (fun c hc => ih hc) hc) h1 c1 t e1
        by_cases q3 : c1.1 = 141
        · rw [if_pos q3] at e2
          obtain ⟨h3, h4⟩ := hn c1 a1
          have := a1.2.2 (by omega)
          cases e2
          exact ⟨h3, by omega, by omega⟩
        · rw [if_neg q3] at e2; cases e2
      · rw [if_neg q2] at e
        exact pCmp_prg hn h c' s' e
theorem pAny_prg {T F k : Nat} {nx : (Int × Nat × Int × Nat) → (Int × Nat × Int × Nat)} (hn : NxOk T nx) {c : (Int × Nat × Int × Nat)} (h : VC T c) : Prg T c (pAny nx F k c) := pJo_prg (by decide) hn (fun _ hc => pJo_prg (by decide) hn (fun _ hc => pOne_prg hn k hc) hc) h
theorem cuN_nx (b : Nat → Int) (T : Nat) : NxOk T (cuN b T) := fun _ h => cuN_ok h
/-- the model reads here -/
def MdAt (g : zG) (b : Nat → Int) (T : Nat) (c : (Int × Nat × Int × Nat)) : Prop := TaAt g b T ∧ (ByOk b T ∧ g 12 0 17 = 0) ∧ VC T c ∧ g 12 0 14 = c.1 ∧ g 12 0 15 = (c.2.1 : Int) ∧ g 12 0 16 = c.2.2.1 ∧ g 12 0 13 = (c.2.2.2 : Int)
def sPr : Nat → Nat → Nat → Prop := fun k j i => (k = 50 ∧ j = 0) ∨ (k = 12 ∧ j = 0 ∧ (i = 11 ∨ (13 ≤ i ∧ i ≤ 18) ∨ i = 20))
/-- steps laid so far -/
def SlAt (g : zG) (s : List (Int × Int)) : Prop := g 12 0 11 = (s.length : Int) ∧ ∀ k, k < s.length → g 50 0 (2 * k) = (s.getD k (0, 0)).1 ∧ g 50 0 (2 * k + 1) = (s.getD k (0, 0)).2
theorem m_nx (d T : Nat) (b : Nat → Int) (c : (Int × Nat × Int × Nat)) (g : zG) (h : MdAt g b T c) : ∃ g', EvM (d + 7) 112 [.inr (12, 0)] g = some (none, g') ∧ MdAt g' b T (cuN b T c) ∧ Fr sTk g g' := by
  obtain ⟨h1, h2, h3, h4, h5, h6, h7⟩ := h
  refine ⟨_, m_next0 d T c.2.2.2 b c.2.2.1 g h1 h2.1 h7 h3.2.1 h6, ⟨⟨?_, ?_, h1.2.2⟩, ⟨h2.1, by rw [tkU_fr g _ _ _ _ 12 0 17 (by simp [sTk])]; exact h2.2⟩, (cuN_ok h3).1, rfl, rfl, rfl, rfl⟩, tkU_fr _ _ _ _ _⟩
  · rw [(tkU_fr g _ _ _ _).fn (fun i => by simp [sTk])]; exact h1.1
  · rw [tkU_fr g _ _ _ _ 12 0 12 (by simp [sTk])]; exact h1.2.1
theorem SlAt.fr {g g' : zG} {s : List (Int × Int)} (h : SlAt g s) (h11 : g' 12 0 11 = g 12 0 11) (hf : g' 50 0 = g 50 0) : SlAt g' s := by
  unfold SlAt
  rw [h11, hf]
  exact h
theorem SlAt.tk {g g' : zG} {s : List (Int × Int)} (h : SlAt g s) (hf : Fr sTk g g') : SlAt g' s := h.fr (hf 12 0 11 (by simp [sTk])) (hf.fn (fun i => by simp [sTk]))
theorem m_lay (d : Nat) (o v : Int) (s : List (Int × Int)) (g : zG) (h : SlAt g s) (hs : s.length < 410) : ∃ g', EvM d 124 [.inr (12, 0), .inl o, .inl v] g = some (none, g') ∧ SlAt g' (s ++ [(o, v)]) ∧ Fr (fun k j i => (k = 50 ∧ j = 0) ∨ (k = 12 ∧ j = 0 ∧ i = 11)) g g' := by
  obtain ⟨h1, h2⟩ := h
  refine ⟨zU (zU (zU g 50 0 (2 * s.length) o) 50 0 (2 * s.length + 1) v) 12 0 11 ((s.length + 1 : Nat) : Int), ?_, ⟨?_, ?_⟩, ?_⟩
  · rw [en124]
    simp only [e124_0, e124_1, e124_4, e124_5, e124_6, e124_9, e124_10, e124_11, e124_12, e124_13, e124_16, e124_17, e124_18, e124_21, e124_22, e124_23, e124_24, e124_25, e124_26, e124_27, e124_28, e124_31, e124_32, e124_33, e124_36, zU_app, zbI_some, zbV_some, Int.reduceToNat, Int.reduceLE, Int.reduceLT, Int.reduceEq, Nat.reduceEqDiff, and_self, and_true, true_and, and_false, false_and, if_true, if_false, ne_eq, not_true_eq_false, not_false_eq_true, reduceCtorEq, h1]
    rw [zwr_id (x := 2 * (s.length : Int)) (by omega) (by omega), zwr_id (x := 2 * (s.length : Int) + 1) (by omega) (by omega), zwr_id (x := (s.length : Int) + 1) (by omega) (by omega), if_pos (by omega), if_pos (by omega), show (2 * (s.length : Int)).toNat = 2 * s.length by omega, show (2 * (s.length : Int) + 1).toNat = 2 * s.length + 1 by omega]
    rfl
  · rw [zU_eq, List.length_append]; rfl
  · intro k hk
    rw [List.length_append, List.length_singleton] at hk
    have out : ∀ y, zU (zU (zU g 50 0 (2 * s.length) o) 50 0 (2 * s.length + 1) v) 12 0 11 ((s.length + 1 : Nat) : Int) 50 0 y = zU (zU g 50 0 (2 * s.length) o) 50 0 (2 * s.length + 1) v 50 0 y := fun y => zU_ne (by omega)
    rw [out, out]
    by_cases e : k = s.length
    · subst e
      rw [List.getD_eq_getElem?_getD, List.getElem?_append_right (Nat.le_refl _)]
      simp [zU]
    · have hk : k < s.length := by omega
      rw [zU_ne (by omega), zU_ne (by omega), zU_ne (by omega), zU_ne (by omega), List.getD_eq_getElem?_getD, List.getElem?_append_left hk, ← List.getD_eq_getElem?_getD]
      exact h2 k hk
  · intro k j i h
    have n1 : ¬ (k = 50 ∧ j = 0) := fun z => h (Or.inl z)
    have n2 : ¬ (k = 12 ∧ j = 0 ∧ i = 11) := fun z => h (Or.inr z)
    rw [zU_ne n2, zU_ne (by omega), zU_ne (by omega)]
