/-! both alike: what changes -/
section BM
variable {s : Nat → Nat → Int} {g : zG}
/-- a rule that was only thought of lies behind the others -/
def Thr (w w' : Nat → Int) : Prop := ∀ i, ¬ (40 + 4 * nR w ≤ i ∧ i < 44 + 4 * nR w) → w' i = w i
theorem Thr.nr {w w' : Nat → Int} (h : Thr w w') : nR w' = nR w := by unfold nR; rw [h 18 (by omega)]
theorem Thr.rx {w w' : Nat → Int} (h : Thr w w') (hX : RuX w) : RuX w' := by
  refine ⟨by rw [h 18 (by omega)]; exact hX.1, fun r hr => ?_⟩
  rw [h.nr] at hr
  rw [h _ (by omega), h _ (by omega), h _ (by omega), h _ (by omega)]
  exact hX.2 r hr
theorem Thr.vk {w w' : Nat → Int} {ls : List (List (Int × Int) × List (Int × Int))} (h : Thr w w') (hV : VOk w ls) : VOk w' ls := by
  obtain ⟨⟨⟨-, h2, -, h3, h4, h5, h6, h7⟩, h1, h8, h9⟩, h10⟩ := hV
  have n7 := h1.nr.2
  have e17 := h 17 (by omega)
  exact VOk.of (h.rx h1) (by rw [h 18 (by omega)]; exact h2) (by rw [e17]; exact h3) (by rw [e17]; exact fun z => (h4 z).cg e17 (fun i hi => h _ (by omega))) (h5.cg e17 (fun i hi => h _ (by omega))) (h6.cg (fun i hi => h _ (by omega))) (by rw [h 6 (by omega)]; exact h7) (h8.cg (fun i hi => h i (by omega))) h9 (by rw [e17, h 1 (by omega)]; exact h10)
theorem Thr.rd {j : Nat} {w w' : Nat → Int} {ls : List (List (Int × Int) × List (Int × Int))} (h : Thr w w') (hV : VOk w ls) (hR : RdAt g j w ls) : RdAt g j w' ls := by
  obtain ⟨h0, ⟨a0, a1, a2, a3, a4⟩, h2, h3, h4, h5⟩ := hR
  have n7 := hV.1.2.1.nr.2
  refine ⟨h0.cg (h 17 (by omega)) (fun i hi => h i (by omega)) hV.1.1.2.2.2.1.2, ?_, h2, by rw [h 19 (by omega)]; exact h3, h4.cg (fun i q1 q2 => h i (by omega)), h5.cg (h 6 (by omega)) hV.1.1.2.2.2.2.2.2.2.2 (fun i q1 q2 => h i (by omega))⟩
  unfold RuAt
  rw [h.nr, h 18 (by omega)]
  refine ⟨a0, fun r hr => ?_, ?_, ?_, ?_⟩
  · rw [h _ (by omega), h _ (by omega), h _ (by omega)]; exact a1 r hr
  · rw [a2]; congr 1; exact mk_cong (fun r q => by unfold onB; rw [h _ (by omega)])
  · rw [a3]; congr 1; exact mk_cong (fun r q => by unfold tuB; rw [h _ (by omega)])
  · rw [a4]; congr 1; exact mk_cong (fun r q => by unfold tuB; rw [h _ (by omega)])
theorem b_third (h : Inv s g) (a b c x : Int) : Bth s 222 225 [.inl a, .inl b, .inl c, .inl x] g := by
  obtain ⟨ls, n, t, f, hV, hR, -, -⟩ := h.1
  obtain ⟨g1, q1, f1⟩ := k_third hV.1 33 a b c x g hR
  have ew : g1 46 0 = g 46 0 := funext fun x => f1 46 0 x (by unfold sTt3 sTt sLw sSk sRu; omega)
  have h1 := h.qc (f1.up (fun k a x q => q))
  obtain ⟨g2, q2, f2⟩ := m_third hV.1.1.1 hV.1.1.2.1 hV.1.1.2.2.1 hV.1.1.2.2.2.2.1 hV.1.1.2.2.2.2.2.1 35 a b c x g1 ew
  refine ⟨_, g1, g2, q1, q2, h1.2.2.2.2, ?_⟩
  obtain ⟨⟨ls, n, t, f, k1, k2, k3, k4⟩, i2, i3, i4, i5⟩ := h1
  have hth : Thr (g1 46 0) (g2 46 0) := fun i hi => f2 46 0 i (by rw [ew] at hi; unfold sTh sCur; omega)
  have n7 := k1.1.2.1.nr.2
  have e17 := hth 17 (by omega)
  refine ⟨⟨ls, n, t, f, hth.vk k1, hth.rd k1 (k2.on (fun k a x q => f2 k a x (by unfold sRd at q; unfold sTh sCur; omega))), k3.on (fun k x q => f2 k 0 x (by unfold sTh sCur; omega)), ?_⟩, i2.on (fun k a x q => f2 k a x (by unfold sD2 sRd at q; unfold sTh sCur; omega)), i3.on (fun k a x q => f2 k a x (by unfold sD3 at q; unfold sTh sCur; omega)), i4.on (fun k a x q => f2 k a x (by unfold sD4 at q; unfold sTh sCur; omega)), ?_⟩
  · obtain ⟨m1, m2, m3, m4, m5⟩ := k4.on (g' := g2) (fun k a x q => f2 k a x (by unfold sHs at q; unfold sTh sCur; omega))
    refine ⟨m1, m2, m3, m4, fun q hq => ?_⟩
    obtain ⟨p1, p2, ⟨p, y1, y2, y3, y4⟩, p4, p5⟩ := m5 q hq
    have en : ∀ i, i < 17 → nxR n f (g2 46 0) q i = nxR n f (g1 46 0) q i := fun i hi => by
      unfold nxR
      split
      · exact hth i (by omega)
      · rfl
    refine ⟨p1, p2, ⟨p, by rw [e17]; exact y1, y2, y3, fun p' z1 z2 => by rw [en _ (by omega)]; exact y4 p' z1 z2⟩, by rw [en _ (by decide)]; exact p4, ?_⟩
    refine Thr.vk (w := unW (g1 46 0) (f q)) (fun i hi => ?_) p5
    have hnr : nR (unW (g1 46 0) (f q)) = nR (g1 46 0) := by unfold nR; rw [unW_hi (by omega)]
    rw [hnr] at hi
    unfold unW
    split
    · rfl
    · exact hth i hi
  · rw [← i5]
    funext a x
    exact f2 60 a x (by unfold sTh sCur; omega)
/-- a change that may be -/
theorem b_mu (h : Inv s g) {y1 y2 : Nat} {as : List zV} {o : Option (Nat → Int)} {x y : Int} (hc : ∀ ls, VOk (g 46 0) ls → RdAt g 0 (g 46 0) ls → ∃ g1, EvM 39 y1 (.inr (11, 0) :: as) g = some (some (.inl (isW o x y)), g1) ∧ OpAt g g1 ls o) (hm : ∀ g1 : zG, EvM 39 y2 (.inr (12, 0) :: as) (zRw g1 (g 46 0)) = some (some (.inl (isW o x y)), upW g1 (g 46 0) o)) (hv : ∀ ls w', VOk (g 46 0) ls → o = some w' → VOk w' ls) : Bth s y1 y2 as g := by
  have h0 := h
  obtain ⟨⟨ls, n, t, f, k1, k2, k3, k4⟩, i2, i3, i4, i5⟩ := h
  obtain ⟨g1, e1, O1⟩ := hc ls k1 k2
  cases o with
  | none =>
    have O1 : g1 = g := O1
    subst O1
    have e2 := hm g1
    rw [← zRw_of (g := g1) rfl] at e2
    exact ⟨_, g1, _, e1, e2, i5, by show Inv s (zRw g1 (g1 46 0)); rw [zRw_self]; exact h0⟩
  | some w' =>
    obtain ⟨r1, r2, f1⟩ := O1
    have ew : g1 46 0 = g 46 0 := funext fun x => f1 46 0 x (by unfold sMu sRd; omega)
    have e2 := hm g1
    rw [← zRw_of ew] at e2
    have e60 : g1 60 = s := by rw [← i5]; funext a x; exact f1 60 a x (by unfold sMu sRd; omega)
    refine ⟨_, g1, _, e1, e2, e60, ?_⟩
    show Inv s (zU (zRw g1 w') 12 0 3 0)
    have ne : ∀ k a x, k ≠ 46 → ¬ (k = 12 ∧ a = 0 ∧ x = 3) → zU (zRw g1 w') 12 0 3 0 k a x = g1 k a x := fun k a x q1 q2 => by
      rw [zU_ne q2, zRw_ne (by omega)]
    have e46 : zU (zRw g1 w') 12 0 3 0 46 0 = w' := by rw [zU_fn (by omega), zRw_at]
    have e21 : g1 2 0 1 = (t : Int) := by rw [f1 2 0 1 (by unfold sMu sRd; omega)]; exact k4.2.1
    refine ⟨⟨ls, 0, t, f, ?_, ?_, ?_, ?_⟩, ?_, ?_, ?_, ?_⟩
    · rw [e46]; exact hv ls w' k1 rfl
    · rw [e46]; exact r1.on (fun k a x q => ne k a x (by unfold sRd at q; omega) (by unfold sRd at q; omega))
    · exact ⟨rfl, by decide, fun q hq => by omega⟩
    · exact HrAt.no (by rw [ne 2 0 0 (by omega) (by omega)]; exact r2) (by rw [ne 2 0 1 (by omega) (by omega)]; exact e21) k4.2.2.1
    · refine (i2.on (g' := g1) (fun k a x q => f1 k a x ?_)).on (fun k a x q => ne k a x ?_ ?_)
      · unfold sD2 sRd at q; unfold sMu sRd; omega
      · unfold sD2 sRd at q; omega
      · unfold sD2 sRd at q; omega
    · refine (i3.on (g' := g1) (fun k a x q => f1 k a x ?_)).on (fun k a x q => ne k a x ?_ ?_)
      · unfold sD3 at q; unfold sMu sRd; omega
      · unfold sD3 at q; omega
      · unfold sD3 at q; omega
    · refine (i4.on (g' := g1) (fun k a x q => f1 k a x ?_)).on (fun k a x q => ne k a x ?_ ?_)
      · unfold sD4 at q; unfold sMu sRd; omega
      · unfold sD4 at q; omega
      · unfold sD4 at q; omega
    · rw [← e60]; funext a x; exact ne 60 a x (by omega) (by omega)
theorem b_person (h : Inv s g) (x : Int) : Bth s 17 19 [.inl x] g := by
  obtain ⟨ls, n, t, f, hV, -, -, -⟩ := h.1
  exact b_mu h (fun ls k1 k2 => k_person k1 38 x g k2) (fun g1 => m_person 38 x g1 (g 46 0) hV.1.1.2.2.2.1) (fun ls w' k1 e => v_person k1 e)
theorem b_set (h : Inv s g) (a b x : Int) : Bth s 28 39 [.inl a, .inl b, .inl x] g := by
  obtain ⟨ls, n, t, f, hV, -, -, -⟩ := h.1
  exact b_mu h (fun ls k1 k2 => k_set k1 36 a b x g k2) (fun g1 => m_set 37 a b x g1 (g 46 0) hV.1.1.2.2.2.1 ⟨hV.1.2.1.1.1, hV.1.1.2.1⟩) (fun ls w' k1 e => v_set k1 e)
theorem b_change (h : Inv s g) (a b : Int) : Bth s 42 45 [.inl a, .inl b] g := by
  obtain ⟨ls, n, t, f, hV, -, -, -⟩ := h.1
  exact b_mu h (fun ls k1 k2 => k_change k1 36 a b g k2) (fun g1 => m_change 37 a b g1 (g 46 0) hV.1.1.2.2.2.1) (fun ls w' k1 e => v_change k1 e)
theorem b_state (h : Inv s g) (v : Int) : Bth s 13 15 [.inl v] g := by
  refine b_mu (o := some (uW (g 46 0) 7 v)) (x := g 46 0 7) (y := 0) h (fun ls k1 k2 => ?_) (fun g1 => ?_) (fun ls w' k1 e => by cases e; exact v_state k1 v)
  · obtain ⟨g1, e1, r1, r2, f1⟩ := k_state k1 38 v g k2
    exact ⟨g1, e1, r1, r2, f1⟩
  · have := m_state 38 v (zRw g1 (g 46 0))
    rw [zRw_at, zU_zRw] at this
    exact this
theorem b_rule (h : Inv s g) (a b c : Int) : Bth s 21 24 [.inl a, .inl b, .inl c] g := by
  obtain ⟨ls, n, t, f, hV, -, -, -⟩ := h.1
  have hr : 0 ≤ g 46 0 18 ∧ g 46 0 18 ≤ 6 := ⟨hV.1.2.1.1.1, hV.1.1.2.1⟩
  by_cases q : cR a b c ∧ g 46 0 18 ≠ 6
  · refine b_mu (o := some (wT (g 46 0) a b c)) (x := g 46 0 18) (y := 0) h (fun ls k1 k2 => ?_) (fun g1 => ?_) (fun ls w' k1 e => by cases e; exact v_rule k1 q.1 q.2)
    · rcases k_rule k1 38 a b c g k2 with ⟨-, -, g1, e1, r1, r2, f1⟩ | ⟨z, -⟩
      · exact ⟨g1, e1, r1, r2, f1⟩
      · exact absurd q z
    · rcases m_rule 37 a b c (zRw g1 (g 46 0)) (by rw [zRw_at]; exact hr) with ⟨-, -, e⟩ | ⟨z, -⟩
      · rw [zRw_at] at e
        have eg : zU (uRu (zRw g1 (g 46 0)) (g 46 0 18).toNat a b c) 46 0 18 (g 46 0 18 + 1) = zRw g1 (wT (g 46 0) a b c) := by
          unfold uRu wT wRu nR
          rw [zU_zRw, zU_zRw, zU_zRw, zU_zRw, zU_zRw]
        rw [eg] at e
        exact e
      · rw [zRw_at] at z
        exact absurd q z
  · refine b_mu (o := none) (x := 0) (y := -1) h (fun ls k1 k2 => ?_) (fun g1 => ?_) (fun ls w' k1 e => by cases e)
    · rcases k_rule k1 38 a b c g k2 with ⟨z1, z2, -⟩ | ⟨-, e⟩
      · exact absurd ⟨z1, z2⟩ q
      · exact ⟨g, e, rfl⟩
    · rcases m_rule 37 a b c (zRw g1 (g 46 0)) (by rw [zRw_at]; exact hr) with ⟨z1, z2, -⟩ | ⟨-, e⟩
      · rw [zRw_at] at z2
        exact absurd ⟨z1, z2⟩ q
      · exact e
theorem b_play (h : Inv s g) (x : Int) : Bth s 132 162 [.inl x] g := by
  obtain ⟨⟨ls, n, t, f, k1, k2, k3, k4⟩, i2, i3, i4, i5⟩ := h
  obtain ⟨g1, t1, e1, V1, R1, H1, f1⟩ := k_play k1 33 n t f x g k2 k4
  have ew : g1 46 0 = g 46 0 := funext fun x => f1 46 0 x (by unfold sPy sRd sHs sLw sSk; omega)
  have k3' : HiAt g1 n f := k3.on (fun k x q => f1 k 0 x (by unfold sPy sRd sHs sLw sSk; omega))
  obtain ⟨g2, e2, w2, -, H2, f2⟩ := m_play k1.1.1 34 n f x g1 ew k3'
  have e60 : g1 60 = s := by rw [← i5]; funext a x; exact f1 60 a x (by unfold sPy sRd sHs sLw sSk; omega)
  have F2 : ∀ k a x, ¬ ((k = 46 ∧ a = 0) ∨ (k = 48 ∧ a = 0) ∨ (k = 12 ∧ a = 0 ∧ (x = 3 ∨ 22 ≤ x)) ∨ k = 52 ∨ k = 53) → g2 k a x = g1 k a x := fun k a x q => f2 k a x (by unfold sPl sPa sHi sCur; omega)
  refine ⟨_, g1, g2, e1, e2, e60, ⟨_, _, t1, _, by rw [w2]; exact V1, by rw [w2]; exact R1.on (fun k a x q => F2 k a x (by unfold sRd at q; omega)), H2, by rw [w2]; exact H1.on (fun k a x q => F2 k a x (by unfold sHs at q; omega))⟩, ?_, ?_, ?_, ?_⟩
  · refine (i2.on (g' := g1) (fun k a x q => f1 k a x ?_)).on (fun k a x q => F2 k a x ?_)
    · unfold sD2 sRd at q; unfold sPy sRd sHs sLw sSk; omega
    · unfold sD2 sRd at q; omega
  · refine (i3.on (g' := g1) (fun k a x q => f1 k a x ?_)).on (fun k a x q => F2 k a x ?_)
    · unfold sD3 at q; unfold sPy sRd sHs sLw sSk; omega
    · unfold sD3 at q; omega
  · refine (i4.on (g' := g1) (fun k a x q => f1 k a x ?_)).on (fun k a x q => F2 k a x ?_)
    · unfold sD4 at q; unfold sPy sRd sHs sLw sSk; omega
    · unfold sD4 at q; omega
  · rw [← e60]; funext a x; exact F2 60 a x (by omega)
theorem b_undo (h : Inv s g) : Bth s 245 247 [] g := by
  have h0 := h
  obtain ⟨⟨ls, n, t, f, k1, k2, k3, k4⟩, i2, i3, i4, i5⟩ := h
  cases n with
  | zero => exact ⟨0, g, g, k_undo0 38 g k4.1, m_undo0 39 g k3.1, i5, h0⟩
  | succ n =>
    obtain ⟨g1, t1, e1, V1, R1, H1, f1⟩ := k_undo1 k1 36 n t f g k2 k4
    have ew : g1 46 0 = g 46 0 := funext fun x => f1 46 0 x (by unfold sUn sRd; omega)
    have k3' : HiAt g1 (n + 1) f := k3.on (fun k x q => f1 k 0 x (by unfold sUn sRd; omega))
    obtain ⟨g2, e2, H2, w2, f2⟩ := m_undo1 39 n f g1 k3'
    rw [ew] at w2
    have e60 : g1 60 = s := by rw [← i5]; funext a x; exact f1 60 a x (by unfold sUn sRd; omega)
    refine ⟨1, g1, g2, e1, e2, e60, ⟨ls, n, t1, f, by rw [w2]; exact V1, by rw [w2]; exact R1.on (fun k a x q => f2 k a x (by unfold sRd at q; omega)), H2, by rw [w2]; exact H1.on (fun k a x q => f2 k a x (by unfold sHs at q; omega))⟩, ?_, ?_, ?_, ?_⟩
    · refine (i2.on (g' := g1) (fun k a x q => f1 k a x ?_)).on (fun k a x q => f2 k a x ?_)
      · unfold sD2 sRd at q; unfold sUn sRd; omega
      · unfold sD2 sRd at q; omega
    · refine (i3.on (g' := g1) (fun k a x q => f1 k a x ?_)).on (fun k a x q => f2 k a x ?_)
      · unfold sD3 at q; unfold sUn sRd; omega
      · unfold sD3 at q; omega
    · refine (i4.on (g' := g1) (fun k a x q => f1 k a x ?_)).on (fun k a x q => f2 k a x ?_)
      · unfold sD4 at q; unfold sUn sRd; omega
      · unfold sD4 at q; omega
    · rw [← e60]; funext a x; exact f2 60 a x (by omega)
end BM
