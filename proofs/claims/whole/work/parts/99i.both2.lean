/-! both alike: image, feed, end, text -/
section BN
variable {s : Nat → Nat → Int} {g : zG}
theorem b_image1 (h : Inv s g) : Bth s 248 252 [.inl 1] g := by
  obtain ⟨⟨ls, n, t, f, k1, k2, k3, k4⟩, i2, i3, i4, i5⟩ := h
  obtain ⟨g1, e1, R1, c1, f1⟩ := k_imageT k1 36 1 (by decide) g k2
  have ew : g1 46 0 = g 46 0 := funext fun x => f1 46 0 x (by unfold sRd; omega)
  obtain ⟨g2, e2, f2, c2, w2⟩ := m_imageT 38 1 (by decide) g1
  have e60 : g1 60 = s := by rw [← i5]; funext a x; exact f1 60 a x (by unfold sRd; omega)
  have wk : ∀ i, i < 1370 → g2 47 0 i = g 46 0 i := fun i hi => by rw [w2 i hi, ew]
  refine ⟨1, g1, g2, e1, e2, e60, ?_, ?_, ?_, ?_, ?_⟩
  · have I : I1 g := ⟨ls, n, t, f, k1, k2, k3, k4⟩
    refine (I.on (g' := g1) (fun k a x q => f1 k a x ?_)).on (fun k a x q => f2 k a x ?_)
    · unfold sD1 sRd sHs at q; unfold sRd; omega
    · unfold sD1 sRd sHs at q; omega
  · have d1 : g2 11 0 2 = 1 := by rw [f2 11 0 2 (by omega)]; exact c1
    have d2 : g2 12 0 4 = 1 := c2
    refine ⟨by rw [d1, d2], Or.inr ⟨d2, ls, k1.cg2 wk, ?_⟩⟩
    exact (R1.on (g' := g2) (fun k a x q => f2 k a x (by unfold sRd at q; omega))).cg2 k1 wk
  · refine (i3.on (g' := g1) (fun k a x q => f1 k a x ?_)).on (fun k a x q => f2 k a x ?_)
    · unfold sD3 at q; unfold sRd; omega
    · unfold sD3 at q; omega
  · refine (i4.on (g' := g1) (fun k a x q => f1 k a x ?_)).on (fun k a x q => f2 k a x ?_)
    · unfold sD4 at q; unfold sRd; omega
    · unfold sD4 at q; omega
  · rw [← e60]; funext a x; exact f2 60 a x (by omega)
theorem b_image0 (h : Inv s g) : Bth s 248 252 [.inl 0] g := by
  have h0 := h
  obtain ⟨⟨ls, n, t, f, k1, k2, k3, k4⟩, i2, i3, i4, i5⟩ := h
  rcases i2.2 with q | ⟨q, kl, kv, kr⟩
  · exact ⟨0, g, g, k_imageN 36 g (by rw [i2.1]; exact q), m_imageN 38 g q, i5, h0⟩
  · obtain ⟨g1, e1, R1, c1, f1⟩ := k_imageF kv 36 g kr (by rw [i2.1]; exact q)
    have ew : g1 46 0 = g 46 0 := funext fun x => f1 46 0 x (by unfold sMu sRd; omega)
    have ek : g1 47 0 = g 47 0 := funext fun x => f1 47 0 x (by unfold sMu sRd; omega)
    have q' : g1 12 0 4 ≠ 0 := by rw [f1 12 0 4 (by unfold sMu sRd; omega), q]; decide
    have e2 := m_imageF 38 g1 (g 46 0) q'
    rw [← zRw_of ew, ek] at e2
    have e60 : g1 60 = s := by rw [← i5]; funext a x; exact f1 60 a x (by unfold sMu sRd; omega)
    have wk : ∀ i, i < 1370 → imW (g 46 0) (g 47 0) i = g 47 0 i := fun i hi => if_pos hi
    have e21 : g1 2 0 1 = (t : Int) := by rw [f1 2 0 1 (by unfold sMu sRd; omega)]; exact k4.2.1
    refine ⟨1, g1, _, e1, e2, e60, ?_⟩
    have ne : ∀ k a x, k ≠ 46 → ¬ (k = 12 ∧ a = 0 ∧ (x = 3 ∨ x = 4)) → zU (zU (zRw g1 (imW (g 46 0) (g 47 0))) 12 0 3 0) 12 0 4 1 k a x = g1 k a x := fun k a x q1 q2 => by
      rw [zU_ne (by omega), zU_ne (by omega), zRw_ne (by omega)]
    have e46 : zU (zU (zRw g1 (imW (g 46 0) (g 47 0))) 12 0 3 0) 12 0 4 1 46 0 = imW (g 46 0) (g 47 0) := by rw [zU_fn (by omega), zU_fn (by omega), zRw_at]
    have e47 : zU (zU (zRw g1 (imW (g 46 0) (g 47 0))) 12 0 3 0) 12 0 4 1 47 0 = g 47 0 := by rw [← ek]; funext x; exact ne 47 0 x (by omega) (by omega)
    refine ⟨⟨kl, 0, t, f, ?_, ?_, ⟨rfl, by decide, fun q hq => by omega⟩, ?_⟩, ?_, ?_, ?_, ?_⟩
    · rw [e46]; exact kv.cg2 wk
    · rw [e46]; exact (R1.on (fun k a x q => ne k a x (by unfold sRd at q; omega) (by unfold sRd at q; omega))).cg2 kv wk
    · exact HrAt.no (by rw [ne 2 0 0 (by omega) (by omega)]; exact c1) (by rw [ne 2 0 1 (by omega) (by omega)]; exact e21) k4.2.2.1
    · refine ⟨?_, Or.inr ⟨rfl, kl, by rw [e47]; exact kv, ?_⟩⟩
      · rw [ne 11 0 2 (by omega) (by omega), f1 11 0 2 (by unfold sMu sRd; omega), i2.1, q]; rfl
      · rw [e47]
        exact (kr.on (g' := g1) (fun k a x q => f1 k a x (by unfold sRd at q; unfold sMu sRd; omega))).on (fun k a x q => ne k a x (by unfold sRd at q; omega) (by unfold sRd at q; omega))
    · refine (i3.on (g' := g1) (fun k a x q => f1 k a x ?_)).on (fun k a x q => ne k a x ?_ ?_)
      · unfold sD3 at q; unfold sMu sRd; omega
      · unfold sD3 at q; omega
      · unfold sD3 at q; omega
    · refine (i4.on (g' := g1) (fun k a x q => f1 k a x ?_)).on (fun k a x q => ne k a x ?_ ?_)
      · unfold sD4 at q; unfold sMu sRd; omega
      · unfold sD4 at q; omega
      · unfold sD4 at q; omega
    · rw [← e60]; funext a x; exact ne 60 a x (by omega) (by omega)
theorem fdB_rng (a b c e f : Int) (i : Nat) : 0 ≤ fdB a b c e f i ∧ fdB a b c e f i < 256 := by
  unfold fdB
  rw [zand255]
  omega
theorem b_feed (h : Inv s g) (a b c e f : Int) : Bth s 46 48 [.inl a, .inl b, .inl c, .inl e, .inl f] g := by
  have h0 := h
  obtain ⟨i1, i2, ⟨T, t1, t2, t3⟩, i4, i5⟩ := h
  have hT4 := t3.2.1
  let B' : Nat → Int := fun i => if i < T then g 51 0 i else fdB a b c e f (i - T)
  rcases k_feed 38 a b c e f T (g 51 0) B' g t3 (fun i hi => if_pos hi) (fun x hx => by show (if T + x < T then g 51 0 (T + x) else fdB a b c e f (T + x - T)) = _; rw [if_neg (by omega), show T + x - T = x by omega]) with ⟨q, e1⟩ | ⟨q, g1, e1, p1, f1⟩
  · rcases m_feed 39 a b c e f T hT4 g t1.2.1 with ⟨-, e2⟩ | ⟨z, -⟩
    · exact ⟨-1, g, g, e1, e2, i5, h0⟩
    · omega
  · have ta : g1 12 0 12 = (T : Int) := by rw [f1 12 0 12 (by omega)]; exact t1.2.1
    rcases m_feed 39 a b c e f T hT4 g1 ta with ⟨z, -⟩ | ⟨-, g2, e2, f2, c2, w2⟩
    · omega
    · have e60 : g1 60 = s := by rw [← i5]; funext a x; exact f1 60 a x (by omega)
      have eb : ∀ i, i < T + 20 → g2 51 0 i = B' i := fun i hi => by
        show _ = if i < T then g 51 0 i else fdB a b c e f (i - T)
        by_cases z : i < T
        · rw [if_pos z, f2 51 0 i (by omega), f1 51 0 i (by omega)]
        · rw [if_neg z]
          have := w2 (i - T) (by omega)
          rw [show T + (i - T) = i by omega] at this
          exact this
      refine ⟨_, g1, g2, e1, e2, e60, ?_, ?_, ⟨T + 20, ⟨rfl, c2, by omega⟩, fun i hi => ?_, ?_⟩, ?_, ?_⟩
      · refine (i1.on (g' := g1) (fun k a x q => f1 k a x ?_)).on (fun k a x q => f2 k a x ?_)
        · unfold sD1 sRd sHs at q; omega
        · unfold sD1 sRd sHs at q; omega
      · refine (i2.on (g' := g1) (fun k a x q => f1 k a x ?_)).on (fun k a x q => f2 k a x ?_)
        · unfold sD2 sRd at q; omega
        · unfold sD2 sRd at q; omega
      · rw [eb i hi]
        show 0 ≤ (if i < T then g 51 0 i else fdB a b c e f (i - T)) ∧ (if i < T then g 51 0 i else fdB a b c e f (i - T)) < 256
        by_cases z : i < T
        · rw [if_pos z]; exact t2 i z
        · rw [if_neg z]; exact fdB_rng _ _ _ _ _ _
      · refine ⟨by rw [f2 9 0 0 (by omega)]; exact p1.1, by omega, fun i hi => ?_⟩
        rw [f2 43 0 i (by omega), eb i hi]
        exact p1.2.2 i hi
      · refine (i4.on (g' := g1) (fun k a x q => f1 k a x ?_)).on (fun k a x q => f2 k a x ?_)
        · unfold sD4 at q; omega
        · unfold sD4 at q; omega
      · rw [← e60]; funext a x; exact f2 60 a x (by omega)
theorem b_end (h : Inv s g) (n : Int) : Bth s 49 51 [.inl n] g := by
  have h0 := h
  obtain ⟨i1, i2, ⟨T, t1, t2, t3⟩, i4, i5⟩ := h
  have hT4 := t3.2.1
  have e1 := k_end 38 n (T : Int) g t3.1
  by_cases q : 0 ≤ n ∧ n ≤ (T : Int)
  · rw [if_pos q] at e1
    have e2 := m_end 38 n (zU g 9 0 0 n)
    have ta : zU g 9 0 0 n 12 0 12 = (T : Int) := t1.2.1
    rw [ta, if_pos q] at e2
    obtain ⟨m, rfl⟩ : ∃ m : Nat, n = (m : Int) := ⟨n.toNat, by omega⟩
    have ne : ∀ k a x, ¬ ((k = 9 ∧ a = 0 ∧ x = 0) ∨ (k = 12 ∧ a = 0 ∧ x = 12)) → zU (zU g 9 0 0 (m : Int)) 12 0 12 (m : Int) k a x = g k a x := fun k a x z => by
      rw [zU_ne (by omega), zU_ne (by omega)]
    have e51 : zU (zU g 9 0 0 (m : Int)) 12 0 12 (m : Int) 51 0 = g 51 0 := funext fun x => ne 51 0 x (by omega)
    refine ⟨1, _, _, e1, e2, i5, i1.on (fun k a x z => ne k a x (by unfold sD1 sRd sHs at z; omega)), i2.on (fun k a x z => ne k a x (by unfold sD2 sRd at z; omega)), ⟨m, ⟨rfl, rfl, by omega⟩, ?_, rfl, by omega, fun i hi => ?_⟩, i4.on (fun k a x z => ne k a x (by unfold sD4 at z; omega)), i5⟩
    · rw [e51]; exact fun i hi => t2 i (by omega)
    · exact t3.2.2 i (by omega)
  · rw [if_neg q] at e1
    have e2 := m_end 38 n g
    have ta : g 12 0 12 = (T : Int) := t1.2.1
    rw [ta, if_neg q] at e2
    exact ⟨0, g, g, e1, e2, i5, h0⟩
theorem VOk.law {w w' : Nat → Int} {ls ls' : List (List (Int × Int) × List (Int × Int))} (h : VOk w ls) (hw : ∀ i, i < 485 → w' i = w i) (hL : LwAt w' ls') (hO : LsOk ls') : VOk w' ls' := by
  obtain ⟨⟨⟨-, h2, -, h3, h4, h5, h6, h7⟩, h1, h8, h9⟩, h10⟩ := h
  have e17 := hw 17 (by omega)
  exact VOk.of (h1.cg (hw 18 (by omega)) (fun i q1 q2 => hw i (by omega))) (by rw [hw 18 (by omega)]; exact h2) (by rw [e17]; exact h3) (by rw [e17]; exact fun z => (h4 z).cg e17 (fun i hi => hw _ (by omega))) (h5.cg e17 (fun i hi => hw _ (by omega))) (h6.cg (fun i hi => hw _ (by omega))) (by rw [hw 6 (by omega)]; exact h7) hL hO (by rw [e17, hw 1 (by omega)]; exact h10)
theorem b_text (h : Inv s g) : Bth s 52 111 [] g := by
  obtain ⟨F, hF⟩ : ∃ F, 400 < F := ⟨401, by decide⟩
  obtain ⟨⟨ls, n, t, f, k1, k2, k3, k4⟩, i2, ⟨T, t1, t2, t3⟩, i4, i5⟩ := h
  obtain ⟨g1, e1, O1, c1, f1⟩ := k_text 30 T F hF (g 51 0) (g 12 0 16) t2 g t3
  have ew : g1 46 0 = g 46 0 := funext fun x => f1 46 0 x (by unfold sTc sCo sLm sAd; omega)
  have eb : g1 51 0 = g 51 0 := funext fun x => f1 51 0 x (by unfold sTc sCo sLm sAd; omega)
  have tA : TaAt g1 (g 51 0) T := ⟨eb, by rw [f1 12 0 12 (by unfold sTc sCo sLm sAd; omega)]; exact t1.2.1, t1.2.2⟩
  obtain ⟨g2, e2, O2, c2, f2⟩ := m_text 0 T F hF (g 51 0) (g 12 0 16) g1 ew tA t2 (f1 12 0 16 (by unfold sTc sCo sLm sAd; omega))
  have e60 : g1 60 = s := by rw [← i5]; funext a x; exact f1 60 a x (by unfold sTc sCo sLm sAd; omega)
  have F2 : ∀ k a x, ¬ ((k = 46 ∧ a = 0) ∨ (k = 49) ∨ (k = 50) ∨ (k = 12 ∧ a = 0 ∧ 10 ≤ x ∧ x ≤ 21)) → g2 k a x = g1 k a x := fun k a x q => f2 k a x (by unfold sTe sTx sLi sPr; omega)
  have J2 : I2 g2 := by
    refine (i2.on (g' := g1) (fun k a x q => f1 k a x ?_)).on (fun k a x q => F2 k a x ?_)
    · unfold sD2 sRd at q; unfold sTc sCo sLm sAd; omega
    · unfold sD2 sRd at q; omega
  have J3 : I3 g2 := by
    refine ⟨0, ⟨rfl, c2, by omega⟩, fun i hi => by omega, ?_, by omega, fun i hi => by omega⟩
    rw [F2 9 0 0 (by omega)]; exact c1
  have J5 : g2 60 = s := by rw [← e60]; funext a x; exact F2 60 a x (by omega)
  have kH : HiAt g2 n f := (k3.on (g' := g1) (fun k x q => f1 k 0 x (by unfold sTc sCo sLm sAd; omega))).on (fun k x q => F2 k 0 x (by omega))
  refine ⟨_, g1, g2, e1, e2, e60, ?_, J2, J3, ?_, J5⟩
  · cases ha : aText (g 51 0) T F (g 12 0 16) with
    | inl q =>
      rw [ha] at O1 O2
      obtain ⟨o1, o2, o3⟩ := O1
      obtain ⟨w2, -, -⟩ := O2
      have I : I1 g := ⟨ls, n, t, f, k1, k2, k3, k4⟩
      refine I.on (fun k a x q => ?_)
      by_cases z46 : k = 46 ∧ a = 0
      · obtain ⟨rfl, rfl⟩ := z46
        rw [w2]
      · rw [F2 k a x (by unfold sD1 sRd sHs at q; omega)]
        by_cases z : a = 0 ∧ ((k = 3 ∧ x < 3) ∨ k = 28)
        · obtain ⟨rfl, z⟩ := z
          exact o3 k x z
        · exact f1 k a x (by unfold sD1 sRd sHs at q; unfold sTc sCo sLm sAd; omega)
    | inr l2 =>
      rw [ha] at O1 O2
      obtain ⟨o1, o2, o3, o4⟩ := O1
      obtain ⟨p1, p2, p3, p4, -, -⟩ := O2
      have hO : LsOk l2 := ⟨o4, p3, p4⟩
      have V2 : VOk (g2 46 0) l2 := k1.law p2 p1 hO
      refine ⟨l2, n, t, f, V2, ?_, kH, ?_⟩
      · obtain ⟨r0, r1, r2, r3, r4, r5⟩ := k2
        have G : ∀ k x, (k = 8 ∨ (39 ≤ k ∧ k ≤ 42) ∨ k = 6 ∨ (32 ≤ k ∧ k ≤ 34) ∨ k = 5 ∨ k = 1 ∨ k = 0 ∨ (20 ≤ k ∧ k ≤ 23)) → g2 k 0 x = g k 0 x := fun k x q => by
          rw [F2 k 0 x (by omega)]
          exact f1 k 0 x (by unfold sTc sCo sLm sAd; omega)
        exact ⟨(r0.on (fun k x q => G k x (by omega))).cg (p2 17 (by omega)) (fun i hi => p2 i (by omega)) k1.1.1.2.2.2.1.2, (r1.on (fun k x q => G k x (by omega))).cg k1.1.2.1 (p2 18 (by omega)) (fun i q1 q2 => p2 i (by omega)), o3.on (fun k x q => F2 k 0 x (by omega)), by rw [G 5 5 (by omega), p2 19 (by omega)]; exact r3, (r4.on (fun x => G 1 x (by omega))).cg (fun i q1 q2 => p2 i (by omega)), (r5.on (fun k x q => G k x (by omega))).cg (p2 6 (by omega)) k1.1.1.2.2.2.2.2.2.2.2 (fun i q1 q2 => p2 i (by omega))⟩
      · obtain ⟨m1, m2, m3, m4, m5⟩ := (k4.on (g' := g1) (fun k a x q => f1 k a x (by unfold sHs at q; unfold sTc sCo sLm sAd; omega))).on (g' := g2) (fun k a x q => F2 k a x (by unfold sHs at q; omega))
        refine ⟨m1, m2, m3, m4, fun q hq => ?_⟩
        obtain ⟨a1, a2, ⟨p, y1, y2, y3, y4⟩, a4, a5⟩ := m5 q hq
        have en : ∀ i, i < 17 → nxR n f (g2 46 0) q i = nxR n f (g 46 0) q i := fun i hi => by
          unfold nxR
          split
          · exact p2 i (by omega)
          · rfl
        refine ⟨a1, a2, ⟨p, by rw [p2 17 (by omega)]; exact y1, y2, y3, fun p' z1 z2 => by rw [en _ (by omega)]; exact y4 p' z1 z2⟩, by rw [en _ (by decide)]; exact a4, ?_⟩
        refine a5.law (fun i hi => ?_) (p1.cg (fun i hi => unW_hi (by omega))) hO
        unfold unW
        split
        · rfl
        · exact p2 i hi
  · cases ha : aText (g 51 0) T F (g 12 0 16) with
    | inl q =>
      rw [ha] at O1 O2
      obtain ⟨o1, o2, o3⟩ := O1
      obtain ⟨w2, x1, x2⟩ := O2
      unfold I4
      rw [F2 11 0 7 (by omega), F2 11 0 8 (by omega), o1, o2, x1, x2]
      exact ⟨rfl, rfl⟩
    | inr l2 =>
      rw [ha] at O1 O2
      obtain ⟨o1, o2, o3, o4⟩ := O1
      obtain ⟨p1, p2, p3, p4, x1, x2⟩ := O2
      unfold I4
      rw [F2 11 0 7 (by omega), F2 11 0 8 (by omega), o1, o2, x1, x2]
      exact ⟨rfl, rfl⟩
end BN
