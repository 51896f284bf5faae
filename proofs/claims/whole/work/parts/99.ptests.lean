/-! the machine reads joined tests, lines, the text -/
section PO
variable {T F : Nat} {nx : (Int × Nat × Int × Nat) → (Int × Nat × Int × Nat)} {R : (Int × Nat × Int × Nat) → zPS → (Int × Nat) ⊕ zPS}
/-- in a test, a token that joins nothing -/
theorem r_tj (hR : Rs T nx R) {c : (Int × Nat × Int × Nat)} (hc : VC T c) {W Sd : Int} {C : Bool} {ws : List Int} {n : Nat} {cd : List Int} (hW : W = 5 ∨ W = 4 ∧ ¬ 5 ≤ lev (kT c.1)) (hS : Sd ≠ 1) (h0 : c.1 ≠ 0) : R c (W, Sd, C, ws, n, cd) = match tQj Sd C ws n cd (kT c.1) with | .inl f => .inl (f, c.2.1) | .inr S' => R (nx c) S' := by
  rw [hR c W Sd C ws n cd hc, if_neg h0]
  have : tQs W Sd C ws n cd (kT c.1) c.2.2.1 = tQj Sd C ws n cd (kT c.1) := by
    unfold tQs
    rcases hW with q | ⟨q, q5⟩
    · rw [if_neg (by omega), if_neg (by omega), if_neg (by omega), if_neg (by omega), if_neg (by omega)]
    · rw [if_neg (by omega), if_neg (by omega), if_neg (by omega), if_neg (by omega), if_pos q, if_neg q5, if_neg hS]
  rw [this]
  cases tQj Sd C ws n cd (kT c.1) <;> rfl
theorem r_joL (hR : Rs T nx R) (hn : NxOk T nx) {C : Bool} {n : Nat} {one : (Int × Nat × Int × Nat) → ((Int × Nat) ⊕ ((Int × Nat × Int × Nat) × List (Int × Int)))} {w o x : Int} (hx : (w = 5 ∧ o = 21 ∧ x = 13) ∨ (w = 4 ∧ o = 22 ∧ x = 12)) {ws : List Int} (hl : lvt ws < lev x) (hpr : ∀ c, VC T c → Prg T c (one c)) (hv0 : ∀ c, TkV (nx c).1)
    (H : ∀ (c : (Int × Nat × Int × Nat)) (cd : List Int), VC T c → TkV c.1 → Sim T R (R c (1, 1, C, x :: ws, n, cd)) C (x :: ws) n cd (one c)) (HE : x = 12 → ∀ c c' s', VC T c → TkV c.1 → one c = .inr (c', s') → c'.1 ≠ 5) (cd : List Int) : ∀ (m : Nat) (c : (Int × Nat × Int × Nat)) (s : List (Int × Int)) (W : Int), VC T c → TkV c.1 → (x = 12 → c.1 ≠ 5) → T - c.2.1 < m → (W = 5 ∨ W = 4 ∧ ¬ 5 ≤ lev (kT c.1)) → Sim T R (R c (W, 2, C, ws, n, cd ++ trL s)) C ws n cd (pJoL nx one w o m c s) ∧ ∀ c' s', pJoL nx one w o m c s = .inr (c', s') → c'.1 ≠ w ∧ (x = 12 → c'.1 ≠ 5) := by
  have hlx : (x = 13 ∧ lev x = 2) ∨ (x = 12 ∧ lev x = 1) := by
    rcases hx with ⟨-, -, q⟩ | ⟨-, -, q⟩ <;> (rw [q]; decide)
  intro m
  induction m with
  | zero => intro c s W hc hv h5 hm hW; omega
  | succ m ih =>
    intro c s W hc hv h5 hm hW
    obtain ⟨-, -, -, -, -, k12, k13, -⟩ := kT_spec hv
    rw [pJoL]
    by_cases hq : c.1 = w
    · rw [if_pos hq]
      have hkx : kT c.1 = x := by
        rcases hx with ⟨q1, -, q2⟩ | ⟨q1, -, q2⟩
        · rw [q2]; exact k13.mpr (by omega)
        · rw [q2]; exact k12.mpr (by omega)
      obtain ⟨v1, l1⟩ := nx_lt hn hc (by omega)
      have e1 : R c (W, 2, C, ws, n, cd ++ trL s) = R (nx c) (1, 1, C, x :: ws, n, cd ++ trL s) := by
        rw [r_tj hR hc hW (by decide) (by omega), hkx]
        unfold tQj
        rw [if_neg (by omega), if_neg (by decide), if_pos (by omega)]
        unfold tQb
        rw [fl_no hl]
      rw [e1]
      have e2 := H (nx c) (cd ++ trL s) v1 (hv0 c)
      cases hu : one (nx c) with
      | inl e =>
        rw [hu] at e2
        exact ⟨e2, fun c' s' e => by cases e⟩
      | inr q =>
        rw [hu] at e2
        obtain ⟨v2, t2, W2, hW2, e2⟩ := e2
        obtain ⟨-, -, l2⟩ := hpr _ v1 q.1 q.2 hu
        have h52 : x = 12 → q.1.1 ≠ 5 := fun hz => HE hz _ q.1 q.2 v1 (hv0 c) hu
        obtain ⟨-, -, -, -, -, -, j13, -⟩ := kT_spec t2
        have e3 : R q.1 (W2, 2, C, x :: ws, n, cd ++ trL s ++ trL q.2) = R q.1 (W2, 2, C, ws, n, cd ++ trL (s ++ q.2 ++ [(o, 0)])) := by
          rw [R_ir hR v2 (by omega) (by omega) (by omega) (fun y h => by rcases hW2 with z | ⟨-, z⟩; omega; exact absurd h z) (fun _ z _ => by cases z) (fun z => by
            rcases hlx with ⟨y, y'⟩ | ⟨y, y'⟩
            · omega
            · exact absurd (j13.mp z) (h52 y)), trL_ap, trL_ap, trL_1]
          simp only [List.append_assoc]
          rcases hx with ⟨-, y1, y2⟩ | ⟨-, y1, y2⟩
          · rw [y1, y2]; rfl
          · rw [y1, y2]; rfl
        rw [e2, e3]
        exact ih q.1 _ W2 v2 t2 h52 (by have := v2.1; have := v2.2.1; omega) hW2
    · rw [if_neg hq]
      exact ⟨⟨hc, hv, W, hW, rfl⟩, fun c' s' e => by cases e; exact ⟨hq, h5⟩⟩
/-- the whole of it -/
theorem r_jo (hR : Rs T nx R) (hn : NxOk T nx) (hF : T < F) {C : Bool} {n : Nat} {one : (Int × Nat × Int × Nat) → ((Int × Nat) ⊕ ((Int × Nat × Int × Nat) × List (Int × Int)))} {w o x : Int} (hx : (w = 5 ∧ o = 21 ∧ x = 13) ∨ (w = 4 ∧ o = 22 ∧ x = 12)) {ws : List Int} (hl : lvt ws < lev x) (hpr : ∀ c, VC T c → Prg T c (one c)) (hv0 : ∀ c, TkV (nx c).1)
    (H : ∀ (ws' : List Int), (ws' = ws ∨ ws' = x :: ws) → ∀ (c : (Int × Nat × Int × Nat)) (cd : List Int), VC T c → TkV c.1 → Sim T R (R c (1, 1, C, ws', n, cd)) C ws' n cd (one c)) (HE : x = 12 → ∀ c c' s', VC T c → TkV c.1 → one c = .inr (c', s') → c'.1 ≠ 5) (c : (Int × Nat × Int × Nat)) (cd : List Int) (hc : VC T c) (hv : TkV c.1) : Sim T R (R c (1, 1, C, ws, n, cd)) C ws n cd (pJo nx one w o F c) ∧ ∀ c' s', pJo nx one w o F c = .inr (c', s') → c'.1 ≠ w ∧ (x = 12 → c'.1 ≠ 5) := by
  have e1 := H ws (Or.inl rfl) c cd hc hv
  unfold pJo
  cases hu : one c with
  | inl e =>
    rw [hu] at e1
    exact ⟨e1, fun c' s' e => by cases e⟩
  | inr q =>
    rw [hu] at e1
    obtain ⟨v1, t1, W1, hW1, e1⟩ := e1
    have h5 : x = 12 → q.1.1 ≠ 5 := fun hz => HE hz _ q.1 q.2 hc hv hu
    rw [e1]
    exact r_joL hR hn hx hl hpr hv0 (fun c cd => H (x :: ws) (Or.inr rfl) c cd) HE cd F q.1 q.2 W1 v1 t1 h5 (by omega) hW1
/-- or of and of a test -/
theorem r_any0 (hR : Rs T nx R) (hn : NxOk T nx) (ht : ∀ c, TkV (nx c).1) (hF : T < F) {C : Bool} {n : Nat} {one : (Int × Nat × Int × Nat) → ((Int × Nat) ⊕ ((Int × Nat × Int × Nat) × List (Int × Int)))} (hpr : ∀ c, VC T c → Prg T c (one c)) {ws : List Int} (hl : lvt ws < 1)
    (H : ∀ (ws' : List Int), lvt ws' < 3 → opn ws' = opn ws → ∀ (c : (Int × Nat × Int × Nat)) (cd : List Int), VC T c → TkV c.1 → Sim T R (R c (1, 1, C, ws', n, cd)) C ws' n cd (one c)) (c : (Int × Nat × Int × Nat)) (cd : List Int) (hc : VC T c) (hv : TkV c.1) : Sim T R (R c (1, 1, C, ws, n, cd)) C ws n cd (pJo nx (pJo nx one 5 21 F) 4 22 F c) ∧ ∀ c' s', pJo nx (pJo nx one 5 21 F) 4 22 F c = .inr (c', s') → c'.1 ≠ 4 ∧ c'.1 ≠ 5 := by
  have A : ∀ (ws' : List Int), lvt ws' < 2 → opn ws' = opn ws → ∀ (c : (Int × Nat × Int × Nat)) (cd : List Int), VC T c → TkV c.1 → Sim T R (R c (1, 1, C, ws', n, cd)) C ws' n cd (pJo nx one 5 21 F c) ∧ ∀ c' s', pJo nx one 5 21 F c = .inr (c', s') → c'.1 ≠ 5 := by
    intro ws' h1 h2 c cd hc hv
    obtain ⟨q1, q2⟩ := r_jo hR hn hF (Or.inl ⟨rfl, rfl, rfl⟩) (show lvt ws' < lev 13 from h1) hpr ht (fun ws2 h c cd => H ws2 (by
      rcases h with h | h
      · rw [h]; omega
      · rw [h]; exact (by decide : lev 13 < 3)) (by
      rcases h with h | h
      · rw [h]; exact h2
      · rw [h, opn, if_neg (by decide)]; exact h2) c cd) (fun z => by cases z) c cd hc hv
    exact ⟨q1, fun c' s' e => (q2 c' s' e).1⟩
  obtain ⟨q1, q2⟩ := r_jo hR hn hF (one := pJo nx one 5 21 F) (Or.inr ⟨rfl, rfl, rfl⟩) (show lvt ws < lev 12 from hl) (fun c hc => pJo_prg (by decide) hn hpr hc) ht (fun ws2 h c cd hc hv => (A ws2 (by
      rcases h with h | h
      · rw [h]; omega
      · rw [h]; exact (by decide : lev 12 < 2)) (by
      rcases h with h | h
      · rw [h]
      · rw [h, opn, if_neg (by decide)]; rfl) c cd hc hv).1) (fun _ c c' s' hc hv e => (A ws (by omega) rfl c [] hc hv).2 c' s' e) c cd hc hv
  exact ⟨q1, fun c' s' e => ⟨(q2 c' s' e).1, (q2 c' s' e).2 rfl⟩⟩
theorem r_one (hR : Rs T nx R) (hn : NxOk T nx) (ht : ∀ c, TkV (nx c).1) (hF : T < F) {C : Bool} {n : Nat} : ∀ (k : Nat) (ws : List Int), lvt ws < 4 → opn ws + k = 8 → ∀ (c : (Int × Nat × Int × Nat)) (cd : List Int), VC T c → TkV c.1 → Sim T R (R c (1, 1, C, ws, n, cd)) C ws n cd (pOne nx F k c) := by
  intro k
  induction k with
  | zero =>
    intro ws hl ho c cd hc hv
    obtain ⟨-, -, -, -, -, -, -, k14, k40, -⟩ := kT_spec hv
    rw [pOne]
    by_cases hq : c.1 = 6 ∨ c.1 = 140
    · rw [if_pos hq]
      show R c (1, 1, C, ws, n, cd) = _
      rw [hR c 1 1 C ws n cd hc, if_neg (by omega)]
      unfold tQs
      rw [if_neg (by decide), if_pos rfl, if_pos (by rcases hq with q | q; exact Or.inl (k14.mpr q); exact Or.inr (k40.mpr q)), if_pos (by omega)]
    · rw [if_neg hq]
      exact r_cmp hR hn ht hF hl hc hv (by omega) (by omega)
  | succ k ih =>
    intro ws hl ho c cd hc hv
    obtain ⟨-, -, -, -, -, -, -, k14, k40, -⟩ := kT_spec hv
    rw [pOne]
    by_cases hq : c.1 = 6
    · rw [if_pos hq]
      obtain ⟨v1, l1⟩ := nx_lt hn hc (by omega)
      have e1 : R c (1, 1, C, ws, n, cd) = R (nx c) (1, 1, C, 14 :: ws, n, cd) := by
        rw [hR c 1 1 C ws n cd hc, if_neg (by omega)]
        unfold tQs
        rw [if_neg (by decide), if_pos rfl, if_pos (Or.inl (k14.mpr hq)), if_neg (by omega), k14.mpr hq]
      rw [e1]
      have e2 := ih (14 :: ws) (show lev 14 < 4 by decide) (by rw [opn, if_pos (Or.inr rfl)]; omega) (nx c) cd v1 (ht c)
      cases hu : pOne nx F k (nx c) with
      | inl e => rw [hu] at e2; exact e2
      | inr q =>
        rw [hu] at e2
        obtain ⟨v2, t2, W2, hW2, e2⟩ := e2
        refine ⟨v2, t2, W2, hW2, ?_⟩
        rw [e2, R_ir hR v2 (by omega) (by decide) (by decide) (fun y h => by rcases hW2 with z | ⟨-, z⟩; omega; exact absurd h z) (fun _ z _ => by cases z) (fun _ => by decide)]
        show _ = R q.1 (W2, 2, C, ws, n, cd ++ trL (q.2 ++ [(20, 0)]))
        rw [trL_ap, trL_1, List.append_assoc]
        rfl
    · rw [if_neg hq]
      by_cases hq2 : c.1 = 140
      · rw [if_pos hq2]
        obtain ⟨v1, l1⟩ := nx_lt hn hc (by omega)
        have e1 : R c (1, 1, C, ws, n, cd) = R (nx c) (1, 1, C, 40 :: ws, n, cd) := by
          rw [hR c 1 1 C ws n cd hc, if_neg (by omega)]
          unfold tQs
          rw [if_neg (by decide), if_pos rfl, if_pos (Or.inr (k40.mpr hq2)), if_neg (by omega), k40.mpr hq2]
        rw [e1]
        obtain ⟨e2, E2⟩ := r_any0 hR hn ht hF (C := C) (n := n) (one := pOne nx F k) (fun c hc => pOne_prg hn k hc) (ws := 40 :: ws) (show lev 40 < 1 by decide) (fun ws' y1 y2 c cd hc hv => ih ws' (by omega) (by rw [y2, opn, if_pos (Or.inl rfl)]; omega) c cd hc hv) (nx c) cd v1 (ht c)
        cases hu : pJo nx (pJo nx (pOne nx F k) 5 21 F) 4 22 F (nx c) with
        | inl e => rw [hu] at e2; exact e2
        | inr q =>
          rw [hu] at e2
          obtain ⟨v2, t2, W2, hW2, e2⟩ := e2
          obtain ⟨n4, n5⟩ := E2 q.1 q.2 hu
          obtain ⟨-, -, -, -, -, j12, j13, -, -, j41, j59, -⟩ := kT_spec t2
          show Sim T R _ C ws n cd (if q.1.1 = 141 then .inr (nx q.1, q.2) else .inl (1, q.1.2.1))
          rw [e2]
          by_cases h141 : q.1.1 = 141
          · rw [if_pos h141]
            obtain ⟨v3, -⟩ := nx_lt hn v2 (by omega)
            refine ⟨v3, ht _, 5, Or.inl rfl, ?_⟩
            rw [r_tj hR v2 hW2 (by decide) (by omega), j41.mpr h141]
            unfold tQj
            rw [if_neg (by omega), if_neg (by decide), if_neg (by omega), if_pos ⟨rfl, by rw [brk, if_pos rfl]; omega⟩]
            rw [fl_no (show lvt (40 :: ws) < 1 from (by decide : lev 40 < 1))]
            rfl
          · rw [if_neg h141]
            show R q.1 (W2, 2, C, 40 :: ws, n, cd ++ trL q.2) = .inl (1, q.1.2.1)
            by_cases h0 : q.1.1 = 0
            · rw [hR q.1 W2 2 C (40 :: ws) n _ v2, if_pos h0, if_neg (by omega)]
            · rw [r_tj hR v2 hW2 (by decide) h0]
              unfold tQj
              rw [if_neg (fun z => by have := z.2; rw [brk, if_pos rfl] at this; omega), if_neg (by decide), if_neg (fun z => by rcases z with z | z; exact n4 (j12.mp z); exact n5 (j13.mp z)), if_neg (fun z => h141 (j41.mp z.1))]
      · rw [if_neg hq2]
        exact r_cmp hR hn ht hF hl hc hv hq hq2
end PO
