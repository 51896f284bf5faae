/-! what holds of a row holds after each change -/
def VOk (w : Nat → Int) (ls : List (List (Int × Int) × List (Int × Int))) : Prop := WOk w ls ∧ (w 17 = 0 → w 1 = 0)
theorem VOk.of {w : Nat → Int} {ls : List (List (Int × Int) × List (Int × Int))} (h1 : RuX w) (h2 : w 18 ≤ 6) (h3 : 0 ≤ w 17 ∧ w 17 ≤ 8) (h4 : 0 < w 17 → PeOk w) (h5 : NoOk w) (h6 : GlOk w) (h7 : 0 ≤ w 6 ∧ w 6 ≤ 100) (h8 : LwAt w ls) (h9 : LsOk ls) (h10 : w 17 = 0 → w 1 = 0) : VOk w ls := ⟨⟨⟨h1.ok, h2, h8.ok h9, h3, h4, h5, h6, h7⟩, h1, h8, h9⟩, h10⟩
theorem RuX.cg {w w' : Nat → Int} (h : RuX w) (h18 : w' 18 = w 18) (hr : ∀ i, 40 ≤ i → i < 68 → w' i = w i) : RuX w' := by
  have hn : nR w' = nR w := by unfold nR; rw [h18]
  have h7 := h.nr.2
  refine ⟨by rw [h18]; exact h.1, fun r hr' => ?_⟩
  rw [hn] at hr'
  rw [hr _ (by omega) (by omega), hr _ (by omega) (by omega), hr _ (by omega) (by omega), hr _ (by omega) (by omega)]
  exact h.2 r hr'
theorem VOk.cg {w w' : Nat → Int} {ls : List (List (Int × Int) × List (Int × Int))} (h : VOk w ls) (hc : ∀ i, i < 4 ∨ i = 6 ∨ (9 ≤ i ∧ i < 19) ∨ (28 ≤ i ∧ i < 36) ∨ (40 ≤ i ∧ i < 68) ∨ 480 ≤ i → w' i = w i) : VOk w' ls := by
  obtain ⟨⟨⟨-, h2, -, h3, h4, h5, h6, h7⟩, h1, h8, h9⟩, h10⟩ := h
  have e17 := hc 17 (by omega)
  refine VOk.of (h1.cg (hc 18 (by omega)) (fun i q1 q2 => hc i (by omega))) ?_ ?_ ?_ (h5.cg e17 (fun i hi => hc i (by omega))) (h6.cg (fun i hi => hc _ (by omega))) ?_ (h8.cg (fun i hi => hc i (by omega))) h9 ?_
  · rw [hc 18 (by omega)]; exact h2
  · rw [e17]; exact h3
  · rw [e17]; exact fun q => (h4 q).cg e17 (fun i hi => hc _ (by omega))
  · rw [hc 6 (by omega)]; exact h7
  · rw [e17, hc 1 (by omega)]; exact h10
theorem v_state {w : Nat → Int} {ls : List (List (Int × Int) × List (Int × Int))} (h : VOk w ls) (v : Int) : VOk (uW w 7 v) ls := h.cg (fun i hi => uW_ne (by omega))
theorem v_person {w w' : Nat → Int} {ls : List (List (Int × Int) × List (Int × Int))} (h : VOk w ls) {x : Int} (e : aPerson w x = some w') : VOk w' ls := by
  obtain ⟨⟨⟨-, h2, -, h3, h4, h5, h6, h7⟩, h1, h8, h9⟩, h10⟩ := h
  unfold aPerson at e
  obtain ⟨hx, e⟩ := zif e
  cases e
  obtain ⟨n, hn⟩ : ∃ n : Nat, w 17 = (n : Int) := ⟨(w 17).toNat, by omega⟩
  have hn8 : n < 8 := by omega
  rw [hn, Int.toNat_natCast]
  have ne : ∀ i, i ≠ 20 + n → i ≠ 9 + n → i ≠ 28 + n → i ≠ 17 → uW (uW (uW (uW w (20 + n) x) (9 + n) 0) (28 + n) (n : Int)) 17 ((n : Int) + 1) i = w i := fun i q1 q2 q3 q4 => by rw [uW_ne q4, uW_ne q3, uW_ne q2, uW_ne q1]
  have e17 : uW (uW (uW (uW w (20 + n) x) (9 + n) 0) (28 + n) (n : Int)) 17 ((n : Int) + 1) 17 = (n : Int) + 1 := uW_eq _ _ _
  have e28 : uW (uW (uW (uW w (20 + n) x) (9 + n) 0) (28 + n) (n : Int)) 17 ((n : Int) + 1) (28 + n) = (n : Int) := by rw [uW_ne (by omega), uW_eq]
  refine VOk.of (h1.cg (ne 18 (by omega) (by omega) (by omega) (by omega)) (fun i q1 q2 => ne i (by omega) (by omega) (by omega) (by omega))) ?_ ?_ ?_ ?_ ?_ ?_ (h8.cg (fun i hi => ne i (by omega) (by omega) (by omega) (by omega))) h9 ?_
  · rw [ne 18 (by omega) (by omega) (by omega) (by omega)]; exact h2
  · rw [e17]; omega
  · intro _
    have old : ∀ p, p < n → uW (uW (uW (uW w (20 + n) x) (9 + n) 0) (28 + n) (n : Int)) 17 ((n : Int) + 1) (28 + p) = w (28 + p) := fun p hp => ne _ (by omega) (by omega) (by omega) (by omega)
    refine ⟨by rw [e17]; omega, by rw [e17]; omega, ?_, ?_, ?_⟩
    · intro p hp
      rw [e17] at hp ⊢
      by_cases q : p = n
      · subst q; rw [e28]; omega
      · rw [old p (by omega)]
        have := ((h4 (by omega)).2.2.1 p (by omega))
        omega
    · intro p q hp hq he
      rw [e17] at hp hq
      by_cases q1 : p = n
      · by_cases q2 : q = n
        · omega
        · subst q1
          rw [e28, old q (by omega)] at he
          have := ((h4 (by omega)).2.2.1 q (by omega))
          omega
      · by_cases q2 : q = n
        · subst q2
          rw [e28, old p (by omega)] at he
          have := ((h4 (by omega)).2.2.1 p (by omega))
          omega
        · rw [old p (by omega), old q (by omega)] at he
          exact (h4 (by omega)).2.2.2.1 p q (by omega) (by omega) he
    · intro s hs
      rw [e17] at hs
      by_cases q : s = n
      · subst q
        exact ⟨s, by rw [e17]; omega, e28⟩
      · obtain ⟨p, p1, p2⟩ := (h4 (by omega)).2.2.2.2 s (by omega)
        exact ⟨p, by rw [e17]; omega, by rw [old p (by omega)]; exact p2⟩
  · obtain ⟨n1, n2, n3, n4⟩ := h5
    unfold NoOk
    rw [ne 0 (by omega) (by omega) (by omega) (by omega), ne 1 (by omega) (by omega) (by omega) (by omega), ne 2 (by omega) (by omega) (by omega) (by omega), ne 3 (by omega) (by omega) (by omega) (by omega), e17]
    refine ⟨n1, ⟨n2.1, fun _ => ?_⟩, n3, n4⟩
    by_cases q : n = 0
    · have := h10 (by omega)
      omega
    · have := n2.2 (by omega)
      omega
  · intro p hp
    by_cases q : p = n
    · subst q
      rw [uW_ne (by omega), uW_ne (by omega), uW_eq]
      omega
    · rw [ne _ (by omega) (by omega) (by omega) (by omega)]
      exact h6 p hp
  · rw [ne 6 (by omega) (by omega) (by omega) (by omega)]; exact h7
  · rw [e17]; omega
theorem v_set {w w' : Nat → Int} {ls : List (List (Int × Int) × List (Int × Int))} (h : VOk w ls) {x y v : Int} (e : aSet w x y v = some w') : VOk w' ls := by
  have h0 := h
  obtain ⟨⟨⟨-, h2, -, h3, h4, h5, h6, h7⟩, h1, h8, h9⟩, h10⟩ := h
  unfold aSet at e
  by_cases c0 : x = 0 ∧ 0 ≤ v ∧ v ≤ 99
  · rw [if_pos c0] at e; cases e
    exact h0.cg (fun i hi => uW_ne (by omega))
  · rw [if_neg c0] at e
    by_cases c1 : x = 1 ∧ (0 ≤ y ∧ y < w 18) ∧ 0 ≤ v ∧ v ≤ 1
    · rw [if_pos c1] at e; cases e
      obtain ⟨r, rfl⟩ : ∃ r : Nat, y = (r : Int) := ⟨y.toNat, by omega⟩
      rw [Int.toNat_natCast]
      have ne : ∀ i, i ≠ 40 + 4 * r + 3 → uW w (40 + 4 * r + 3) v i = w i := fun i q => uW_ne q
      have hn : nR (uW w (40 + 4 * r + 3) v) = nR w := by unfold nR; rw [ne 18 (by omega)]
      refine VOk.of ⟨by rw [ne 18 (by omega)]; exact h1.1, fun q hq => ?_⟩ (by rw [ne 18 (by omega)]; exact h2) (by rw [ne 17 (by omega)]; exact h3) (by rw [ne 17 (by omega)]; exact fun z => (h4 z).cg (ne 17 (by omega)) (fun i hi => ne _ (by omega))) (h5.cg (ne 17 (by omega)) (fun i hi => ne _ (by omega))) (h6.cg (fun i hi => ne _ (by omega))) (by rw [ne 6 (by omega)]; exact h7) (h8.cg (fun i hi => ne i (by omega))) h9 (by rw [ne 17 (by omega), ne 1 (by omega)]; exact h10)
      rw [hn] at hq
      rw [ne (40 + 4 * q) (by omega), ne (40 + 4 * q + 1) (by omega), ne (40 + 4 * q + 2) (by omega)]
      refine ⟨(h1.2 q hq).1, ?_⟩
      by_cases z : q = r
      · subst z; rw [uW_eq]; omega
      · rw [ne _ (by omega)]; exact (h1.2 q hq).2
    · rw [if_neg c1] at e
      by_cases c2 : x = 2 ∧ (0 ≤ y ∧ y < w 17) ∧ 0 ≤ v ∧ v ≤ 99
      · rw [if_pos c2] at e; cases e
        exact h0.cg (fun i hi => uW_ne (by omega))
      · rw [if_neg c2] at e
        by_cases c3 : x = 3 ∧ (0 ≤ y ∧ y < w 17) ∧ 0 ≤ v ∧ v ≤ 9999
        · rw [if_pos c3] at e; cases e
          obtain ⟨r, rfl⟩ : ∃ r : Nat, y = (r : Int) := ⟨y.toNat, by omega⟩
          rw [Int.toNat_natCast]
          have ne : ∀ i, i ≠ 9 + r → uW w (9 + r) v i = w i := fun i q => uW_ne q
          refine VOk.of (h1.cg (ne 18 (by omega)) (fun i q1 q2 => ne i (by omega))) (by rw [ne 18 (by omega)]; exact h2) (by rw [ne 17 (by omega)]; exact h3) (by rw [ne 17 (by omega)]; exact fun z => (h4 z).cg (ne 17 (by omega)) (fun i hi => ne _ (by omega))) (h5.cg (ne 17 (by omega)) (fun i hi => ne _ (by omega))) ?_ (by rw [ne 6 (by omega)]; exact h7) (h8.cg (fun i hi => ne i (by omega))) h9 (by rw [ne 17 (by omega), ne 1 (by omega)]; exact h10)
          intro p hp
          by_cases z : p = r
          · subst z; rw [uW_eq]; omega
          · rw [ne _ (by omega)]; exact h6 p hp
        · rw [if_neg c3] at e
          by_cases c4 : x = 4 ∧ 1 ≤ v ∧ v ≤ 9999
          · rw [if_pos c4] at e; cases e
            have ne : ∀ i, i ≠ 0 → uW w 0 v i = w i := fun i q => uW_ne q
            refine VOk.of (h1.cg (ne 18 (by omega)) (fun i q1 q2 => ne i (by omega))) (by rw [ne 18 (by omega)]; exact h2) (by rw [ne 17 (by omega)]; exact h3) (by rw [ne 17 (by omega)]; exact fun z => (h4 z).cg (ne 17 (by omega)) (fun i hi => ne _ (by omega))) ?_ (h6.cg (fun i hi => ne _ (by omega))) (by rw [ne 6 (by omega)]; exact h7) (h8.cg (fun i hi => ne i (by omega))) h9 (by rw [ne 17 (by omega), ne 1 (by omega)]; exact h10)
            unfold NoOk
            rw [uW_eq, ne 1 (by omega), ne 2 (by omega), ne 3 (by omega), ne 17 (by omega)]
            exact ⟨by omega, h5.2⟩
          · rw [if_neg c4] at e
            obtain ⟨c5, e⟩ := zif e
            cases e
            have ne : ∀ i, i ≠ 1 → uW w 1 v i = w i := fun i q => uW_ne q
            refine VOk.of (h1.cg (ne 18 (by omega)) (fun i q1 q2 => ne i (by omega))) (by rw [ne 18 (by omega)]; exact h2) (by rw [ne 17 (by omega)]; exact h3) (by rw [ne 17 (by omega)]; exact fun z => (h4 z).cg (ne 17 (by omega)) (fun i hi => ne _ (by omega))) ?_ (h6.cg (fun i hi => ne _ (by omega))) (by rw [ne 6 (by omega)]; exact h7) (h8.cg (fun i hi => ne i (by omega))) h9 (by rw [ne 17 (by omega)]; omega)
            unfold NoOk
            rw [uW_eq, ne 0 (by omega), ne 2 (by omega), ne 3 (by omega), ne 17 (by omega)]
            exact ⟨h5.1, ⟨by omega, fun _ => by omega⟩, h5.2.2⟩
theorem v_change {w w' : Nat → Int} {ls : List (List (Int × Int) × List (Int × Int))} (h : VOk w ls) {a b : Int} (e : aChange w a b = some w') : VOk w' ls := by
  obtain ⟨⟨⟨-, h2, -, h3, h4, h5, h6, h7⟩, h1, h8, h9⟩, h10⟩ := h
  unfold aChange at e
  obtain ⟨hc, e⟩ := zif e
  cases e
  obtain ⟨a, rfl⟩ : ∃ q : Nat, a = (q : Int) := ⟨a.toNat, by omega⟩
  obtain ⟨b, rfl⟩ : ∃ q : Nat, b = (q : Int) := ⟨b.toNat, by omega⟩
  rw [Int.toNat_natCast, Int.toNat_natCast]
  have hab : a ≠ b := by omega
  have hP := h4 (by omega)
  have ne : ∀ i, i ≠ 28 + a → i ≠ 28 + b → uW (uW w (28 + a) (w (28 + b))) (28 + b) (w (28 + a)) i = w i := fun i q1 q2 => by rw [uW_ne q2, uW_ne q1]
  have e17 := ne 17 (by omega) (by omega)
  have ea : uW (uW w (28 + a) (w (28 + b))) (28 + b) (w (28 + a)) (28 + a) = w (28 + b) := by rw [uW_ne (by omega), uW_eq]
  have eb : uW (uW w (28 + a) (w (28 + b))) (28 + b) (w (28 + a)) (28 + b) = w (28 + a) := uW_eq _ _ _
  -- whose seat one has now
  have sw : ∀ p : Nat, (p : Int) < w 17 → ∃ q : Nat, (q : Int) < w 17 ∧ uW (uW w (28 + a) (w (28 + b))) (28 + b) (w (28 + a)) (28 + p) = w (28 + q) ∧ (q = if p = a then b else if p = b then a else p) := by
    intro p hp
    by_cases z1 : p = a
    · subst z1
      exact ⟨b, by omega, ea, by rw [if_pos rfl]⟩
    · by_cases z2 : p = b
      · subst z2
        exact ⟨a, by omega, eb, by rw [if_neg z1, if_pos rfl]⟩
      · exact ⟨p, hp, ne _ (by omega) (by omega), by rw [if_neg z1, if_neg z2]⟩
  refine VOk.of (h1.cg (ne 18 (by omega) (by omega)) (fun i q1 q2 => ne i (by omega) (by omega))) (by rw [ne 18 (by omega) (by omega)]; exact h2) (by rw [e17]; exact h3) ?_ (h5.cg e17 (fun i hi => ne _ (by omega) (by omega))) (h6.cg (fun i hi => ne _ (by omega) (by omega))) (by rw [ne 6 (by omega) (by omega)]; exact h7) (h8.cg (fun i hi => ne i (by omega) (by omega))) h9 (by rw [e17, ne 1 (by omega) (by omega)]; exact h10)
  intro _
  refine ⟨by rw [e17]; exact hP.1, by rw [e17]; exact hP.2.1, ?_, ?_, ?_⟩
  · intro p hp
    rw [e17] at hp ⊢
    obtain ⟨q, q1, q2, -⟩ := sw p hp
    rw [q2]
    exact hP.2.2.1 q q1
  · intro p p' hp hp' he
    rw [e17] at hp hp'
    obtain ⟨q, q1, q2, q3⟩ := sw p hp
    obtain ⟨q', r1, r2, r3⟩ := sw p' hp'
    rw [q2, r2] at he
    have := hP.2.2.2.1 q q' q1 r1 he
    rw [q3, r3] at this
    split at this <;> split at this <;> (try split at this) <;> (try split at this) <;> omega
  · intro s hs
    rw [e17] at hs
    obtain ⟨p, p1, p2⟩ := hP.2.2.2.2 s hs
    by_cases z1 : p = a
    · subst z1
      exact ⟨b, by rw [e17]; omega, by rw [eb]; exact p2⟩
    · by_cases z2 : p = b
      · subst z2
        exact ⟨a, by rw [e17]; omega, by rw [ea]; exact p2⟩
      · exact ⟨p, by rw [e17]; exact p1, by rw [ne _ (by omega) (by omega)]; exact p2⟩
theorem v_rule {w : Nat → Int} {ls : List (List (Int × Int) × List (Int × Int))} (h : VOk w ls) {so nu tu : Int} (hc : cR so nu tu) (h6' : w 18 ≠ 6) : VOk (wT w so nu tu) ls := by
  obtain ⟨⟨⟨-, h2, -, h3, h4, h5, h6, h7⟩, h1, h8, h9⟩, h10⟩ := h
  have hn := h1.nr
  have ne : ∀ i, i < 40 ∨ 72 ≤ i → i ≠ 18 → wT w so nu tu i = w i := fun i q1 q2 => wT_ne (by omega) q2
  have e17 := ne 17 (by omega) (by omega)
  exact VOk.of (h1.tw h2 hc) (by rw [wT_18]; omega) (by rw [e17]; exact h3) (by rw [e17]; exact fun z => (h4 z).cg e17 (fun i hi => ne _ (by omega) (by omega))) (h5.cg e17 (fun i hi => ne _ (by omega) (by omega))) (h6.cg (fun i hi => ne _ (by omega) (by omega))) (by rw [ne 6 (by omega) (by omega)]; exact h7) (h8.cg (fun i hi => ne i (by omega) (by omega))) h9 (by rw [e17, ne 1 (by omega) (by omega)]; exact h10)
