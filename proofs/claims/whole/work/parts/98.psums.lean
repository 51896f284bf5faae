/-! the machine reads sums and tests -/
section PN
variable {T F : Nat} {nx : (Int × Nat × Int × Nat) → (Int × Nat × Int × Nat)} {R : (Int × Nat × Int × Nat) → zPS → (Int × Nat) ⊕ zPS}
theorem pUnit_tk (ht : ∀ c, TkV (nx c).1) {c c' : (Int × Nat × Int × Nat)} {s : List (Int × Int)} (h : pUnit nx c = .inr (c', s)) : TkV c'.1 := by
  unfold pUnit at h
  split at h
  · cases h; exact ht _
  · cases h
theorem r_pro (hR : Rs T nx R) (hn : NxOk T nx) (ht : ∀ c, TkV (nx c).1) (hF : T < F) {W Sd : Int} {C : Bool} {ws : List Int} {n : Nat} {cd : List Int} (hl : lvt ws < 6) {c : (Int × Nat × Int × Nat)} (hc : VC T c) (hv : TkV c.1) (hW : W = 2 ∨ (W = 1 ∧ c.1 ≠ 6 ∧ c.1 ≠ 140)) : R c (W, Sd, C, ws, n, cd) = Kk R Sd C ws n cd (pPro nx F c) ∧ ∀ c' s', pPro nx F c = .inr (c', s') → VC T c' ∧ TkV c'.1 ∧ c'.1 ≠ 142 ∧ c'.1 ≠ 147 := by
  have hpr := pUnit_prg hn hc
  constructor
  · refine Kk_bnd (r_unit hR hc hv hW) (fun c1 t e => ?_)
    obtain ⟨v2, -, l2⟩ := hpr c1 t e
    exact (r_proL hR hn ht hl F c1 t v2 (pUnit_tk ht e) (by omega)).1
  · intro c' s' e
    obtain ⟨c1, t, e1, e2⟩ := bnd_inr e
    obtain ⟨v2, -, l2⟩ := hpr c1 t e1
    exact (r_proL (Sd := Sd) (C := C) (n := n) (cd := cd) hR hn ht hl F c1 t v2 (pUnit_tk ht e1) (by omega)).2 c' s' e2
theorem lev56 {t : Int} (h : TkV t) (h1 : t ≠ 142) (h2 : t ≠ 147) (h5 : 5 ≤ lev (kT t)) : lev (kT t) ≤ 5 := by
  obtain ⟨-, -, -, -, -, -, -, -, -, -, -, -, -, k5, -, -⟩ := kT_spec h
  rcases k5.mp h5 with q | q | q | q
  · exact absurd q h1
  · exact absurd q h2
  · rw [q]; decide
  · rw [q]; decide
theorem r_sumL (hR : Rs T nx R) (hn : NxOk T nx) (ht : ∀ c, TkV (nx c).1) (hF : T < F) {Sd : Int} {C : Bool} {ws : List Int} {n : Nat} {cd : List Int} (hl : lvt ws < 5) : ∀ (m : Nat) (c : (Int × Nat × Int × Nat)) (s : List (Int × Int)), VC T c → TkV c.1 → c.1 ≠ 142 → c.1 ≠ 147 → T - c.2.1 < m → R c (4, Sd, C, ws, n, cd ++ trL s) = Kk R Sd C ws n cd (pSumL nx F m c s) ∧ ∀ c' s', pSumL nx F m c s = .inr (c', s') → VC T c' ∧ TkV c'.1 ∧ ¬ 5 ≤ lev (kT c'.1) := by
  intro m
  induction m with
  | zero => intro c s hc hv h1 h2 hm; omega
  | succ m ih =>
    intro c s hc hv h1 h2 hm
    obtain ⟨-, -, -, -, -, -, -, -, -, -, -, k47, -, k5, -, -⟩ := kT_spec hv
    rw [pSumL]
    by_cases hq : c.1 = 143 ∨ c.1 = 145
    · rw [if_pos hq]
      obtain ⟨v1, l1⟩ := nx_lt hn hc (by omega)
      obtain ⟨x, hx, hx'⟩ : ∃ x : Int, kT c.1 = x ∧ ((c.1 = 143 ∧ x = 43) ∨ (c.1 = 145 ∧ x = 45)) := by
        rcases hq with q | q
        · exact ⟨43, by rw [q]; rfl, Or.inl ⟨q, rfl⟩⟩
        · exact ⟨45, by rw [q]; rfl, Or.inr ⟨q, rfl⟩⟩
      have hlx : lev x = 5 := by rcases hx' with ⟨-, q⟩ | ⟨-, q⟩ <;> (rw [q]; rfl)
      have e1 : R c (4, Sd, C, ws, n, cd ++ trL s) = R (nx c) (2, Sd, C, x :: ws, n, cd ++ trL s) := by
        rw [hR c 4 Sd C ws n _ hc, if_neg (by omega)]
        unfold tQs
        rw [if_neg (by decide), if_neg (by decide), if_neg (by decide), if_neg (by decide), if_pos rfl, if_pos (k5.mpr (by omega)), if_neg (show ¬ kT c.1 = 47 from fun z => by have := k47.mp z; omega), hx]
        unfold tQb
        rw [fl_no (show lvt ws < lev x by omega)]
      obtain ⟨e2, E2⟩ := r_pro hR hn ht hF (ws := x :: ws) (Sd := Sd) (C := C) (n := n) (cd := cd ++ trL s) (W := 2) (show lev x < 6 by omega) v1 (ht c) (Or.inl rfl)
      have hpr := pPro_prg (m := F) hn v1
      rw [e1]
      cases hu : pPro nx F (nx c) with
      | inl e =>
        rw [hu] at e2
        exact ⟨e2, fun c' s' e => by cases e⟩
      | inr q =>
        rw [hu] at e2
        obtain ⟨-, -, l2⟩ := hpr q.1 q.2 hu
        obtain ⟨v2, t2, n1, n2⟩ := E2 q.1 q.2 hu
        have e3 : R q.1 (4, Sd, C, x :: ws, n, cd ++ trL s ++ trL q.2) = R q.1 (4, Sd, C, ws, n, cd ++ trL (s ++ q.2 ++ [(if c.1 = 143 then 13 else 14, 0)])) := by
          rw [R_ir hR v2 (Or.inl rfl) (by omega) (by omega) (fun _ h5 => by have := lev56 t2 n1 n2 h5; omega) (fun _ _ _ => by omega) (fun _ => by omega), trL_ap, trL_ap, trL_1]
          simp only [List.append_assoc]
          rcases hx' with ⟨y1, y2⟩ | ⟨y1, y2⟩
          · rw [y1, y2]; rfl
          · rw [y1, y2]; rfl
        rw [e2]
        show R q.1 (4, Sd, C, x :: ws, n, cd ++ trL s ++ trL q.2) = _ ∧ _
        rw [e3]
        exact ih q.1 _ v2 t2 n1 n2 (by have := v2.1; have := v2.2.1; omega)
    · rw [if_neg hq]
      exact ⟨rfl, fun c' s' e => by cases e; exact ⟨hc, hv, fun z => by have := k5.mp z; omega⟩⟩
theorem r_sum (hR : Rs T nx R) (hn : NxOk T nx) (ht : ∀ c, TkV (nx c).1) (hF : T < F) {W Sd : Int} {C : Bool} {ws : List Int} {n : Nat} {cd : List Int} (hl : lvt ws < 5) {c : (Int × Nat × Int × Nat)} (hc : VC T c) (hv : TkV c.1) (hW : W = 2 ∨ (W = 1 ∧ c.1 ≠ 6 ∧ c.1 ≠ 140)) : R c (W, Sd, C, ws, n, cd) = Kk R Sd C ws n cd (pSum nx F c) ∧ ∀ c' s', pSum nx F c = .inr (c', s') → VC T c' ∧ TkV c'.1 ∧ ¬ 5 ≤ lev (kT c'.1) := by
  obtain ⟨e1, E1⟩ := r_pro hR hn ht hF (ws := ws) (Sd := Sd) (C := C) (n := n) (cd := cd) (by omega) hc hv hW
  constructor
  · refine Kk_bnd e1 (fun c1 t e => ?_)
    obtain ⟨v2, t2, n1, n2⟩ := E1 c1 t e
    exact (r_sumL hR hn ht hF hl F c1 t v2 t2 n1 n2 (by omega)).1
  · intro c' s' e
    obtain ⟨c1, t, y1, y2⟩ := bnd_inr e
    obtain ⟨v2, t2, n1, n2⟩ := E1 c1 t y1
    exact (r_sumL (Sd := Sd) (C := C) (n := n) (cd := cd) hR hn ht hF hl F c1 t v2 t2 n1 n2 (by omega)).2 c' s' y2
/-- behind a test: what comes next is no reckoning, or a bracket was closed -/
def Sim (T : Nat) (R : (Int × Nat × Int × Nat) → zPS → (Int × Nat) ⊕ zPS) (X : (Int × Nat) ⊕ zPS) (C : Bool) (ws : List Int) (n : Nat) (cd : List Int) (r : ((Int × Nat) ⊕ ((Int × Nat × Int × Nat) × List (Int × Int)))) : Prop :=
  match r with
  | .inl e => X = .inl e
  | .inr q => VC T q.1 ∧ TkV q.1.1 ∧ ∃ W : Int, (W = 5 ∨ W = 4 ∧ ¬ 5 ≤ lev (kT q.1.1)) ∧ X = R q.1 (W, 2, C, ws, n, cd ++ trL q.2)
theorem r_cmp (hR : Rs T nx R) (hn : NxOk T nx) (ht : ∀ c, TkV (nx c).1) (hF : T < F) {C : Bool} {ws : List Int} {n : Nat} {cd : List Int} (hl : lvt ws < 4) {c : (Int × Nat × Int × Nat)} (hc : VC T c) (hv : TkV c.1) (h6 : c.1 ≠ 6) (h140 : c.1 ≠ 140) : Sim T R (R c (1, 1, C, ws, n, cd)) C ws n cd (pCmp nx F c) := by
  obtain ⟨e1, E1⟩ := r_sum hR hn ht hF (ws := ws) (Sd := 1) (C := C) (n := n) (cd := cd) (W := 1) (by omega) hc hv (Or.inr ⟨rfl, h6, h140⟩)
  unfold pCmp
  cases hu : pSum nx F c with
  | inl e => rw [hu] at e1; exact e1
  | inr q =>
    rw [hu] at e1
    obtain ⟨c1, s⟩ := q
    obtain ⟨v1, t1, a1⟩ := E1 c1 s hu
    have e1 : R c (1, 1, C, ws, n, cd) = R c1 (4, 1, C, ws, n, cd ++ trL s) := e1
    rw [e1]
    obtain ⟨-, -, -, -, -, -, -, -, -, -, -, -, -, -, -, k4⟩ := kT_spec t1
    show Sim T R _ C ws n cd (if cmO c1.1 = -1 then .inl (1, c1.2.1) else bnd (pSum nx F (nx c1)) (fun c2 u => .inr (c2, s ++ u ++ [(cmO c1.1, 0)])))
    have hcm : cmO c1.1 ≠ -1 ↔ lev (kT c1.1) = 4 := by
      rw [k4]
      unfold cmO
      constructor
      · intro h
        by_cases q1 : c1.1 = 160
        · exact Or.inl q1
        · by_cases q2 : c1.1 = 161
          · exact Or.inr (Or.inl q2)
          · by_cases q3 : c1.1 = 162
            · exact Or.inr (Or.inr q3)
            · rw [if_neg q1, if_neg q2, if_neg q3] at h; exact absurd rfl h
      · rintro (h | h | h) <;> (rw [h]; decide)
    by_cases hq : cmO c1.1 = -1
    · rw [if_pos hq]
      show R c1 (4, 1, C, ws, n, cd ++ trL s) = .inl (1, c1.2.1)
      rw [hR c1 4 1 C ws n _ v1]
      by_cases h0 : c1.1 = 0
      · rw [if_pos h0, if_neg (by decide)]
      · rw [if_neg h0]
        unfold tQs
        rw [if_neg (by decide), if_neg (by decide), if_neg (by decide), if_neg (by decide), if_pos rfl, if_neg a1, if_pos rfl, if_neg (fun z => hcm.mpr z hq)]
    · rw [if_neg hq]
      have hlv := hcm.mp hq
      have h3 := k4.mp hlv
      obtain ⟨v2, l2⟩ := nx_lt hn v1 (by omega)
      have e2 : R c1 (4, 1, C, ws, n, cd ++ trL s) = R (nx c1) (2, 2, C, kT c1.1 :: ws, n, cd ++ trL s) := by
        rw [hR c1 4 1 C ws n _ v1, if_neg (by omega)]
        unfold tQs
        rw [if_neg (by decide), if_neg (by decide), if_neg (by decide), if_neg (by decide), if_pos rfl, if_neg a1, if_pos rfl, if_pos hlv]
        unfold tQb
        rw [fl_no (by omega)]
      rw [e2]
      obtain ⟨e3, E3⟩ := r_sum hR hn ht hF (ws := kT c1.1 :: ws) (Sd := 2) (C := C) (n := n) (cd := cd ++ trL s) (W := 2) (show lev (kT c1.1) < 5 by omega) v2 (ht c1) (Or.inl rfl)
      cases hw : pSum nx F (nx c1) with
      | inl e => rw [hw] at e3; exact e3
      | inr q =>
        rw [hw] at e3
        obtain ⟨c2, u⟩ := q
        obtain ⟨v3, t3, a3⟩ := E3 c2 u hw
        refine ⟨v3, t3, 4, Or.inr ⟨rfl, a3⟩, ?_⟩
        have e3 : R (nx c1) (2, 2, C, kT c1.1 :: ws, n, cd ++ trL s) = R c2 (4, 2, C, kT c1.1 :: ws, n, cd ++ trL s ++ trL u) := e3
        rw [e3, R_ir hR v3 (Or.inl rfl) (fun z => by rw [z] at hlv; revert hlv; decide) (by omega) (fun _ h5 => absurd h5 a3) (fun _ z _ => by cases z) (fun _ => by omega)]
        show _ = R c2 (4, 2, C, ws, n, cd ++ trL (s ++ u ++ [(cmO c1.1, 0)]))
        rw [trL_ap, trL_ap, trL_1]
        simp only [List.append_assoc]
        rcases h3 with h | h | h <;> (rw [h]; rfl)
end PN
