/-! the law's grammar: what its tokens come to -/
def bnd (r : ((Int × Nat) ⊕ ((Int × Nat × Int × Nat) × List (Int × Int)))) (f : (Int × Nat × Int × Nat) → List (Int × Int) → ((Int × Nat) ⊕ ((Int × Nat × Int × Nat) × List (Int × Int)))) : ((Int × Nat) ⊕ ((Int × Nat × Int × Nat) × List (Int × Int))) :=
  match r with
  | .inl x => .inl x
  | .inr (c, s) => f c s
def pUnit (nx : (Int × Nat × Int × Nat) → (Int × Nat × Int × Nat)) (c : (Int × Nat × Int × Nat)) : ((Int × Nat) ⊕ ((Int × Nat × Int × Nat) × List (Int × Int))) := if c.1 = 2 ∨ (41 ≤ c.1 ∧ c.1 ≤ 47) then .inr (nx c, [(if 41 ≤ c.1 ∧ c.1 ≤ 47 then c.1 - 40 else 0, c.2.2.1)]) else .inl (1, c.2.1)
def pProL (nx : (Int × Nat × Int × Nat) → (Int × Nat × Int × Nat)) : Nat → (Int × Nat × Int × Nat) → List (Int × Int) → ((Int × Nat) ⊕ ((Int × Nat × Int × Nat) × List (Int × Int)))
  | 0, c, s => .inr (c, s)
  | m + 1, c, s =>
    if c.1 = 147 then (if (nx c).1 = 2 then (if (nx c).2.2.1 = 0 then .inl (2, (nx c).2.1) else pProL nx m (nx (nx c)) (s ++ [(16, (nx c).2.2.1)])) else .inl (1, (nx c).2.1))
    else if c.1 = 142 then bnd (pUnit nx (nx c)) (fun c2 t => pProL nx m c2 (s ++ t ++ [(15, 0)]))
    else .inr (c, s)
def pPro (nx : (Int × Nat × Int × Nat) → (Int × Nat × Int × Nat)) (m : Nat) (c : (Int × Nat × Int × Nat)) : ((Int × Nat) ⊕ ((Int × Nat × Int × Nat) × List (Int × Int))) := bnd (pUnit nx c) (fun c1 t => pProL nx m c1 t)
def pSumL (nx : (Int × Nat × Int × Nat) → (Int × Nat × Int × Nat)) (F : Nat) : Nat → (Int × Nat × Int × Nat) → List (Int × Int) → ((Int × Nat) ⊕ ((Int × Nat × Int × Nat) × List (Int × Int)))
  | 0, c, s => .inr (c, s)
  | m + 1, c, s => if c.1 = 143 ∨ c.1 = 145 then bnd (pPro nx F (nx c)) (fun c2 t => pSumL nx F m c2 (s ++ t ++ [(if c.1 = 143 then 13 else 14, 0)])) else .inr (c, s)
def pSum (nx : (Int × Nat × Int × Nat) → (Int × Nat × Int × Nat)) (F : Nat) (c : (Int × Nat × Int × Nat)) : ((Int × Nat) ⊕ ((Int × Nat × Int × Nat) × List (Int × Int))) := bnd (pPro nx F c) (fun c1 t => pSumL nx F F c1 t)
/-- what is joined by a word -/
def pJoL (nx : (Int × Nat × Int × Nat) → (Int × Nat × Int × Nat)) (one : (Int × Nat × Int × Nat) → ((Int × Nat) ⊕ ((Int × Nat × Int × Nat) × List (Int × Int)))) (w o : Int) : Nat → (Int × Nat × Int × Nat) → List (Int × Int) → ((Int × Nat) ⊕ ((Int × Nat × Int × Nat) × List (Int × Int)))
  | 0, c, s => .inr (c, s)
  | m + 1, c, s => if c.1 = w then bnd (one (nx c)) (fun c2 t => pJoL nx one w o m c2 (s ++ t ++ [(o, 0)])) else .inr (c, s)
def pJo (nx : (Int × Nat × Int × Nat) → (Int × Nat × Int × Nat)) (one : (Int × Nat × Int × Nat) → ((Int × Nat) ⊕ ((Int × Nat × Int × Nat) × List (Int × Int)))) (w o : Int) (F : Nat) (c : (Int × Nat × Int × Nat)) : ((Int × Nat) ⊕ ((Int × Nat × Int × Nat) × List (Int × Int))) := bnd (one c) (fun c1 t => pJoL nx one w o F c1 t)
def cmO (t : Int) : Int := if t = 160 then 17 else if t = 161 then 18 else if t = 162 then 19 else -1
def pCmp (nx : (Int × Nat × Int × Nat) → (Int × Nat × Int × Nat)) (F : Nat) (c : (Int × Nat × Int × Nat)) : ((Int × Nat) ⊕ ((Int × Nat × Int × Nat) × List (Int × Int))) := bnd (pSum nx F c) (fun c1 t => if cmO c1.1 = -1 then .inl (1, c1.2.1) else bnd (pSum nx F (nx c1)) (fun c2 u => .inr (c2, t ++ u ++ [(cmO c1.1, 0)])))
/-- a test, with k openings left -/
def pOne (nx : (Int × Nat × Int × Nat) → (Int × Nat × Int × Nat)) (F : Nat) : Nat → (Int × Nat × Int × Nat) → ((Int × Nat) ⊕ ((Int × Nat × Int × Nat) × List (Int × Int)))
  | 0, c => if c.1 = 6 ∨ c.1 = 140 then .inl (3, c.2.1) else pCmp nx F c
  | k + 1, c =>
    if c.1 = 6 then bnd (pOne nx F k (nx c)) (fun c1 t => .inr (c1, t ++ [(20, 0)]))
    else if c.1 = 140 then bnd (pJo nx (pJo nx (pOne nx F k) 5 21 F) 4 22 F (nx c)) (fun c1 t => if c1.1 = 141 then .inr (nx c1, t) else .inl (1, c1.2.1))
    else pCmp nx F c
def pAny (nx : (Int × Nat × Int × Nat) → (Int × Nat × Int × Nat)) (F k : Nat) (c : (Int × Nat × Int × Nat)) : ((Int × Nat) ⊕ ((Int × Nat × Int × Nat) × List (Int × Int))) := pJo nx (pJo nx (pOne nx F k) 5 21 F) 4 22 F c
/-- a token as it is read -/
def cuN (b : Nat → Int) (T : Nat) (c : (Int × Nat × Int × Nat)) : (Int × Nat × Int × Nat) := (toT b T c.2.2.2, taT b T c.2.2.2, vaT b T c.2.2.2 c.2.2.1, enT b T c.2.2.2)
def VC (T : Nat) (c : (Int × Nat × Int × Nat)) : Prop := c.2.1 ≤ c.2.2.2 ∧ c.2.2.2 ≤ T ∧ (c.1 ≠ 0 → c.2.1 < c.2.2.2)
theorem wdT_ne (b : Nat → Int) (ta e : Nat) : wdT b ta e ≠ 0 := by
  unfold wdT nmT
  repeat' split
  all_goals decide
theorem cuN_ok {b : Nat → Int} {T : Nat} {c : (Int × Nat × Int × Nat)} (h : VC T c) : VC T (cuN b T c) ∧ c.2.2.2 ≤ (cuN b T c).2.1 := by
  have h1 := taT_le (b := b) h.2.1
  have h2 := enT_le (b := b) h.2.1
  refine ⟨⟨h2.1, h2.2, fun hn => ?_⟩, h1.1⟩
  show taT b T c.2.2.2 < enT b T c.2.2.2
  have hn : toT b T c.2.2.2 ≠ 0 := hn
  by_cases q : taT b T c.2.2.2 < T
  · unfold enT
    rw [if_pos q]
    obtain ⟨m, hm⟩ : ∃ m, T - taT b T c.2.2.2 = m + 1 := ⟨T - taT b T c.2.2.2 - 1, by omega⟩
    cases hL : isL (b (taT b T c.2.2.2)) with
    | true =>
      rw [if_pos rfl, hm, skL, hL, if_pos rfl]
      have := skL_le b m (taT b T c.2.2.2 + 1)
      omega
    | false =>
      rw [if_neg (by decide)]
      cases hD : isD (b (taT b T c.2.2.2)) with
      | true =>
        rw [if_pos rfl, hm, skD, hD, if_pos rfl]
        have := skD_le b m (taT b T c.2.2.2 + 1)
        omega
      | false =>
        rw [if_neg (by decide)]
        omega
  · exact absurd (by unfold toT; rw [if_neg q]) hn
/-- what is read is read on, and no more is laid than is read -/
def Prg (T : Nat) (c : (Int × Nat × Int × Nat)) (r : ((Int × Nat) ⊕ ((Int × Nat × Int × Nat) × List (Int × Int)))) : Prop := ∀ c' s, r = .inr (c', s) → VC T c' ∧ c.2.1 + s.length ≤ c'.2.1 ∧ c.2.1 < c'.2.1
theorem bnd_inr {r : ((Int × Nat) ⊕ ((Int × Nat × Int × Nat) × List (Int × Int)))} {f : (Int × Nat × Int × Nat) → List (Int × Int) → ((Int × Nat) ⊕ ((Int × Nat × Int × Nat) × List (Int × Int)))} {x : (Int × Nat × Int × Nat) × List (Int × Int)} (h : bnd r f = .inr x) : ∃ c s, r = .inr (c, s) ∧ f c s = .inr x := by
  cases r with
  | inl y => cases h
  | inr y => exact ⟨y.1, y.2, rfl, h⟩
def NxOk (T : Nat) (nx : (Int × Nat × Int × Nat) → (Int × Nat × Int × Nat)) : Prop := ∀ c, VC T c → VC T (nx c) ∧ c.2.2.2 ≤ (nx c).2.1
theorem pUnit_prg {T : Nat} {nx : (Int × Nat × Int × Nat) → (Int × Nat × Int × Nat)} (hn : NxOk T nx) {c : (Int × Nat × Int × Nat)} (h : VC T c) : Prg T c (pUnit nx c) := by
  intro c' s e
  unfold pUnit at e
  by_cases q : c.1 = 2 ∨ (41 ≤ c.1 ∧ c.1 ≤ 47)
  · rw [if_pos q] at e
    cases e
    obtain ⟨h1, h2⟩ := hn c h
    have := h.2.2 (by omega)
    exact ⟨h1, by simp; omega, by omega⟩
  · rw [if_neg q] at e
    cases e
theorem pProL_prg {T : Nat} {nx : (Int × Nat × Int × Nat) → (Int × Nat × Int × Nat)} (hn : NxOk T nx) : ∀ (m : Nat) (c : (Int × Nat × Int × Nat)) (s : List (Int × Int)), VC T c → ∀ c' s', pProL nx m c s = .inr (c', s') → VC T c' ∧ c.2.1 + s'.length ≤ c'.2.1 + s.length ∧ c.2.1 ≤ c'.2.1 := by
  intro m
  induction m with
  | zero =>
    intro c s h c' s' e
    cases e
    exact ⟨h, by omega, by omega⟩
  | succ m ih =>
    intro c s h c' s' e
    rw [pProL] at e
    obtain ⟨h1, h2⟩ := hn c h
    by_cases q : c.1 = 147
    · rw [if_pos q] at e
      have := h.2.2 (by omega)
      by_cases q2 : (nx c).1 = 2
      · rw [if_pos q2] at e
        by_cases q3 : (nx c).2.2.1 = 0
        · rw [if_pos q3] at e; cases e
        · rw [if_neg q3] at e
          obtain ⟨h3, h4⟩ := hn _ h1
          have := h1.2.2 (by omega)
          obtain ⟨b1, b2, b3⟩ := ih _ _ h3 c' s' e
          rw [List.length_append, List.length_singleton] at b2
          exact ⟨b1, by omega, by omega⟩
      · rw [if_neg q2] at e; cases e
    · rw [if_neg q] at e
      by_cases q2 : c.1 = 142
      · rw [if_pos q2] at e
        have := h.2.2 (by omega)
        obtain ⟨c2, t, e1, e2⟩ := bnd_inr e
        obtain ⟨a1, a2, a3⟩ := pUnit_prg hn h1 c2 t e1
        obtain ⟨b1, b2, b3⟩ := ih _ _ a1 c' s' e2
        rw [List.length_append, List.length_append, List.length_singleton] at b2
        exact ⟨b1, by omega, by omega⟩
      · rw [if_neg q2] at e
        cases e
        exact ⟨h, by omega, by omega⟩
