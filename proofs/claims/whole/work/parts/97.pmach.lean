/-! the class's reading as a machine of its own: want, side, condition, what waits, lines, code -/
abbrev zPS : Type := Int × Int × Bool × List Int × Nat × List Int
def lev (t : Int) : Nat := if t = 12 then 1 else if t = 13 then 2 else if t = 14 then 3 else if t = 60 ∨ t = 61 ∨ t = 62 then 4 else if t = 43 ∨ t = 45 then 5 else if t = 42 ∨ t = 47 then 6 else 0
def fl (l : Nat) : List Int → List Int → List Int × List Int
  | [], c => ([], c)
  | x :: ws, c => if l ≤ lev x then fl l ws (c ++ [-x]) else (x :: ws, c)
def opn : List Int → Nat
  | [] => 0
  | x :: ws => opn ws + if x = 40 ∨ x = 14 then 1 else 0
def brk : List Int → Nat
  | [] => 0
  | x :: ws => brk ws + if x = 40 then 1 else 0
def tQu (Sd : Int) (C : Bool) (ws : List Int) (n : Nat) (cd : List Int) (t v : Int) : Int ⊕ zPS := if t = 9 then .inr (4, Sd, C, ws, n, cd ++ [v]) else if 1 ≤ t ∧ t ≤ 7 then .inr (4, Sd, C, ws, n, cd ++ [-t]) else .inl 1
def tQb (Sd : Int) (C : Bool) (ws : List Int) (n : Nat) (cd : List Int) (t W : Int) : Int ⊕ zPS := .inr (W, Sd, C, t :: (fl (lev t) ws cd).1, n, (fl (lev t) ws cd).2)
def tQj (Sd : Int) (C : Bool) (ws : List Int) (n : Nat) (cd : List Int) (t : Int) : Int ⊕ zPS :=
  if t = 59 ∧ brk ws = 0 then .inr (0, Sd, C, (fl 1 ws cd).1, n + 1, (fl 1 ws cd).2 ++ [if C then -16 else -15])
  else if Sd = 0 then (if t = 11 then .inr (1, 1, true, (fl 1 ws cd).1, n, (fl 1 ws cd).2) else .inl 1)
  else if t = 12 ∨ t = 13 then tQb 1 C ws n cd t 1
  else if t = 41 ∧ 0 < brk ws then .inr (5, Sd, C, (fl 1 ws cd).1.tail, n, (fl 1 ws cd).2)
  else .inl 1
def tQs (W Sd : Int) (C : Bool) (ws : List Int) (n : Nat) (cd : List Int) (t v : Int) : Int ⊕ zPS :=
  if W = 0 then (if t = 10 then (if 16 ≤ n then .inl 3 else .inr (2, 0, false, ws, n, cd)) else .inl 1)
  else if W = 1 then (if t = 14 ∨ t = 40 then (if 8 ≤ opn ws then .inl 3 else .inr (1, Sd, C, t :: ws, n, cd)) else tQu Sd C ws n cd t v)
  else if W = 2 then tQu Sd C ws n cd t v
  else if W = 3 then (if t = 9 then (if v = 0 then .inl 2 else tQu Sd C ws n cd t v) else .inl 1)
  else if W = 4 then (if 5 ≤ lev t then tQb Sd C ws n cd t (if t = 47 then 3 else 2) else if Sd = 1 then (if lev t = 4 then tQb 2 C ws n cd t 2 else .inl 1) else tQj Sd C ws n cd t)
  else tQj Sd C ws n cd t
/-- what comes of it from a token on -/
def Rs (T : Nat) (nx : (Int × Nat × Int × Nat) → (Int × Nat × Int × Nat)) (R : (Int × Nat × Int × Nat) → zPS → (Int × Nat) ⊕ zPS) : Prop := ∀ (c : (Int × Nat × Int × Nat)) (W Sd : Int) (C : Bool) (ws : List Int) (n : Nat) (cd : List Int), VC T c → R c (W, Sd, C, ws, n, cd) = if c.1 = 0 then (if W = 0 then .inr (W, Sd, C, ws, n, cd) else .inl (1, c.2.1)) else
  match tQs W Sd C ws n cd (kT c.1) c.2.2.1 with
  | .inl f => .inl (f, c.2.1)
  | .inr S' => R (nx c) S'
def TkV (t : Int) : Prop := (0 ≤ t ∧ t ≤ 6) ∨ t = 20 ∨ (41 ≤ t ∧ t ≤ 47) ∨ t = 159 ∨ t = 143 ∨ t = 145 ∨ t = 142 ∨ t = 147 ∨ t = 140 ∨ t = 141 ∨ t = 160 ∨ t = 161 ∨ t = 162
theorem TkV.cases {t : Int} (h : TkV t) : t = 0 ∨ t = 1 ∨ t = 2 ∨ t = 3 ∨ t = 4 ∨ t = 5 ∨ t = 6 ∨ t = 20 ∨ t = 41 ∨ t = 42 ∨ t = 43 ∨ t = 44 ∨ t = 45 ∨ t = 46 ∨ t = 47 ∨ t = 159 ∨ t = 143 ∨ t = 145 ∨ t = 142 ∨ t = 147 ∨ t = 140 ∨ t = 141 ∨ t = 160 ∨ t = 161 ∨ t = 162 := by unfold TkV at h; omega
/-- what a token is in the class -/
theorem kT_spec {t : Int} (h : TkV t) : (kT t = 9 ↔ t = 2) ∧ ((1 ≤ kT t ∧ kT t ≤ 7) ↔ (41 ≤ t ∧ t ≤ 47)) ∧ (41 ≤ t → t ≤ 47 → kT t = t - 40) ∧ (kT t = 10 ↔ t = 20) ∧ (kT t = 11 ↔ t = 3) ∧ (kT t = 12 ↔ t = 4) ∧ (kT t = 13 ↔ t = 5) ∧ (kT t = 14 ↔ t = 6) ∧ (kT t = 40 ↔ t = 140) ∧ (kT t = 41 ↔ t = 141) ∧ (kT t = 59 ↔ t = 159) ∧ (kT t = 47 ↔ t = 147) ∧ (kT t = 42 ↔ t = 142) ∧ (5 ≤ lev (kT t) ↔ (t = 142 ∨ t = 147 ∨ t = 143 ∨ t = 145)) ∧ (lev (kT t) = 6 ↔ (t = 142 ∨ t = 147)) ∧ (lev (kT t) = 4 ↔ (t = 160 ∨ t = 161 ∨ t = 162)) := by
  rcases h.cases with h | h | h | h | h | h | h | h | h | h | h | h | h | h | h | h | h | h | h | h | h | h | h | h | h <;> (subst h; decide +kernel)
section PM
variable {T F : Nat} {nx : (Int × Nat × Int × Nat) → (Int × Nat × Int × Nat)} {R : (Int × Nat × Int × Nat) → zPS → (Int × Nat) ⊕ zPS}
/-- what waits on top may be laid already -/
theorem R_ir (hR : Rs T nx R) {c : (Int × Nat × Int × Nat)} (hc : VC T c) {W Sd x : Int} {C : Bool} {ws : List Int} {n : Nat} {cd : List Int} (hW : W = 4 ∨ W = 5) (h0 : x ≠ 40) (h1 : 1 ≤ lev x) (h2 : W = 4 → 5 ≤ lev (kT c.1) → lev (kT c.1) ≤ lev x) (h3 : W = 4 → Sd = 1 → lev (kT c.1) = 4 → 4 ≤ lev x) (h4 : kT c.1 = 13 → 2 ≤ lev x) : R c (W, Sd, C, x :: ws, n, cd) = R c (W, Sd, C, ws, n, cd ++ [-x]) := by
  rw [hR c W Sd C (x :: ws) n cd hc, hR c W Sd C ws n (cd ++ [-x]) hc]
  by_cases hz : c.1 = 0
  · rw [if_pos hz, if_pos hz, if_neg (by omega), if_neg (by omega)]
  · rw [if_neg hz, if_neg hz]
    have hf : ∀ l, l ≤ lev x → fl l (x :: ws) cd = fl l ws (cd ++ [-x]) := fun l hl => by rw [fl, if_pos hl]
    have hb : brk (x :: ws) = brk ws := by rw [brk, if_neg h0, Nat.add_zero]
    have hJ : tQj Sd C (x :: ws) n cd (kT c.1) = tQj Sd C ws n (cd ++ [-x]) (kT c.1) := by
      unfold tQj
      rw [hb, hf 1 h1]
      by_cases q1 : kT c.1 = 59 ∧ brk ws = 0
      · rw [if_pos q1, if_pos q1]
      · rw [if_neg q1, if_neg q1]
        by_cases q2 : Sd = 0
        · rw [if_pos q2, if_pos q2]
        · rw [if_neg q2, if_neg q2]
          by_cases q3 : kT c.1 = 12 ∨ kT c.1 = 13
          · rw [if_pos q3, if_pos q3]
            unfold tQb
            rcases q3 with q | q
            · rw [q, hf (lev 12) h1]
            · rw [q, hf (lev 13) (h4 q)]
          · rw [if_neg q3, if_neg q3]
    have key : tQs W Sd C (x :: ws) n cd (kT c.1) c.2.2.1 = tQs W Sd C ws n (cd ++ [-x]) (kT c.1) c.2.2.1 := by
      unfold tQs
      rw [if_neg (show ¬ W = 0 by omega), if_neg (show ¬ W = 1 by omega), if_neg (show ¬ W = 2 by omega), if_neg (show ¬ W = 3 by omega), if_neg (show ¬ W = 0 by omega), if_neg (show ¬ W = 1 by omega), if_neg (show ¬ W = 2 by omega), if_neg (show ¬ W = 3 by omega)]
      rcases hW with q | q
      · rw [if_pos q, if_pos q]
        by_cases q5 : 5 ≤ lev (kT c.1)
        · rw [if_pos q5, if_pos q5]
          unfold tQb
          rw [hf _ (h2 q q5)]
        · rw [if_neg q5, if_neg q5]
          by_cases q6 : Sd = 1
          · rw [if_pos q6, if_pos q6]
            by_cases q7 : lev (kT c.1) = 4
            · rw [if_pos q7, if_pos q7]
              unfold tQb
              rw [hf _ (by rw [q7]; exact h3 q q6 q7)]
            · rw [if_neg q7, if_neg q7]
          · rw [if_neg q6, if_neg q6, hJ]
      · rw [if_neg (show ¬ W = 4 by omega), if_neg (show ¬ W = 4 by omega), hJ]
    rw [key]
/-- the top of what waits -/
def lvt : List Int → Nat
  | [] => 0
  | x :: _ => lev x
theorem fl_no {l : Nat} {ws cd : List Int} (h : lvt ws < l) : fl l ws cd = (ws, cd) := by
  cases ws with
  | nil => rfl
  | cons x ws =>
    have h : lev x < l := h
    rw [fl, if_neg (by omega)]
def Kk (R : (Int × Nat × Int × Nat) → zPS → (Int × Nat) ⊕ zPS) (Sd : Int) (C : Bool) (ws : List Int) (n : Nat) (cd : List Int) (r : ((Int × Nat) ⊕ ((Int × Nat × Int × Nat) × List (Int × Int)))) : (Int × Nat) ⊕ zPS :=
  match r with
  | .inl e => .inl e
  | .inr q => R q.1 (4, Sd, C, ws, n, cd ++ trL q.2)
theorem trL_ap (a b : List (Int × Int)) : trL (a ++ b) = trL a ++ trL b := by unfold trL; rw [List.flatMap_append]
theorem trL_1 (o : Int × Int) : trL [o] = tr o := by unfold trL; simp
theorem r_unit (hR : Rs T nx R) {c : (Int × Nat × Int × Nat)} (hc : VC T c) (hv : TkV c.1) {W Sd : Int} {C : Bool} {ws : List Int} {n : Nat} {cd : List Int} (hW : W = 2 ∨ (W = 1 ∧ c.1 ≠ 6 ∧ c.1 ≠ 140)) : R c (W, Sd, C, ws, n, cd) = Kk R Sd C ws n cd (pUnit nx c) := by
  obtain ⟨k9, k17, k17', -, -, -, -, k14, k40, -⟩ := kT_spec hv
  rw [hR c W Sd C ws n cd hc]
  unfold pUnit
  by_cases hz : c.1 = 0
  · rw [if_pos hz, if_neg (by omega), if_neg (by omega)]
    rfl
  · rw [if_neg hz]
    have hS : tQs W Sd C ws n cd (kT c.1) c.2.2.1 = tQu Sd C ws n cd (kT c.1) c.2.2.1 := by
      unfold tQs
      rcases hW with q | ⟨q, q1, q2⟩
      · rw [if_neg (by omega), if_neg (by omega), if_pos q]
      · rw [if_neg (by omega), if_pos q, if_neg (fun z => by rcases z with z | z; exact q1 (k14.mp z); exact q2 (k40.mp z))]
    rw [hS]
    unfold tQu
    by_cases h2 : c.1 = 2
    · rw [if_pos (k9.mpr h2), if_pos (Or.inl h2), if_neg (by omega)]
      show R (nx c) _ = R (nx c) _
      rw [trL_1]
      rfl
    · rw [if_neg (fun z => h2 (k9.mp z))]
      by_cases h4 : 41 ≤ c.1 ∧ c.1 ≤ 47
      · rw [if_pos (k17.mpr h4), if_pos (Or.inr h4), if_pos h4]
        show R (nx c) _ = R (nx c) _
        rw [trL_1, k17' h4.1 h4.2]
        unfold tr
        rw [if_neg (show ¬ c.1 - 40 = 0 by omega), if_pos (show c.1 - 40 ≤ 7 by omega)]
      · rw [if_neg (fun z => h4 (k17.mp z)), if_neg (by omega)]
        rfl
theorem Kk_bnd {Sd : Int} {C : Bool} {ws : List Int} {n : Nat} {cd : List Int} {r : ((Int × Nat) ⊕ ((Int × Nat × Int × Nat) × List (Int × Int)))} {f : (Int × Nat × Int × Nat) → List (Int × Int) → ((Int × Nat) ⊕ ((Int × Nat × Int × Nat) × List (Int × Int)))} {X : (Int × Nat) ⊕ zPS} {Sd' : Int} {C' : Bool} {ws' : List Int} {n' : Nat} {cd' : List Int} (hX : X = Kk R Sd C ws n cd r) (h : ∀ c1 t, r = .inr (c1, t) → R c1 (4, Sd, C, ws, n, cd ++ trL t) = Kk R Sd' C' ws' n' cd' (f c1 t)) : X = Kk R Sd' C' ws' n' cd' (bnd r f) := by
  rw [hX]
  cases r with
  | inl e => rfl
  | inr q => exact h q.1 q.2 rfl
theorem nx_lt (hn : NxOk T nx) {c : (Int × Nat × Int × Nat)} (hc : VC T c) (h0 : c.1 ≠ 0) : VC T (nx c) ∧ c.2.1 < (nx c).2.1 := by
  obtain ⟨h1, h2⟩ := hn c hc
  have := hc.2.2 h0
  exact ⟨h1, by omega⟩
theorem r_proL (hR : Rs T nx R) (hn : NxOk T nx) (ht : ∀ c, TkV (nx c).1) {Sd : Int} {C : Bool} {ws : List Int} {n : Nat} {cd : List Int} (hl : lvt ws < 6) : ∀ (m : Nat) (c : (Int × Nat × Int × Nat)) (s : List (Int × Int)), VC T c → TkV c.1 → T - c.2.1 < m → R c (4, Sd, C, ws, n, cd ++ trL s) = Kk R Sd C ws n cd (pProL nx m c s) ∧ ∀ c' s', pProL nx m c s = .inr (c', s') → VC T c' ∧ TkV c'.1 ∧ c'.1 ≠ 142 ∧ c'.1 ≠ 147 := by
  intro m
  induction m with
  | zero => intro c s hc hv hm; omega
  | succ m ih =>
    intro c s hc hv hm
    obtain ⟨k9, -, -, -, -, -, -, -, -, -, -, k47, k42, k5, -, -⟩ := kT_spec hv
    rw [pProL]
    by_cases h1 : c.1 = 147
    · obtain ⟨v1, l1⟩ := nx_lt hn hc (by omega)
      have e1 : R c (4, Sd, C, ws, n, cd ++ trL s) = R (nx c) (3, Sd, C, 47 :: ws, n, cd ++ trL s) := by
        rw [hR c 4 Sd C ws n _ hc, if_neg (by omega)]
        unfold tQs
        rw [if_neg (by decide), if_neg (by decide), if_neg (by decide), if_neg (by decide), if_pos rfl, if_pos (k5.mpr (by omega)), k47.mpr h1]
        unfold tQb
        rw [fl_no (show lvt ws < lev 47 from hl), if_pos rfl]
      rw [if_pos h1, e1]
      obtain ⟨j9, -⟩ := kT_spec (ht c)
      have e2 := hR (nx c) 3 Sd C (47 :: ws) n (cd ++ trL s) v1
      by_cases h2 : (nx c).1 = 2
      · rw [if_pos h2]
        rw [if_neg (by omega)] at e2
        unfold tQs at e2
        rw [if_neg (by decide), if_neg (by decide), if_neg (by decide), if_pos rfl, if_pos (j9.mpr h2)] at e2
        by_cases h3 : (nx c).2.2.1 = 0
        · rw [if_pos h3] at e2 ⊢
          exact ⟨e2, fun c' s' e => by cases e⟩
        · rw [if_neg h3] at e2 ⊢
          unfold tQu at e2
          rw [if_pos (j9.mpr h2)] at e2
          obtain ⟨v2, l2⟩ := nx_lt hn v1 (by omega)
          have ht2 := ht (nx c)
          have e3 : R (nx (nx c)) (4, Sd, C, 47 :: ws, n, cd ++ trL s ++ [(nx c).2.2.1]) = R (nx (nx c)) (4, Sd, C, ws, n, cd ++ trL (s ++ [(16, (nx c).2.2.1)])) := by
            rw [R_ir hR v2 (Or.inl rfl) (by decide) (by decide) (fun _ _ => by rcases ht2.cases with h | h | h | h | h | h | h | h | h | h | h | h | h | h | h | h | h | h | h | h | h | h | h | h | h <;> (rw [h]; decide)) (fun _ _ _ => by decide) (fun _ => by decide), trL_ap, trL_1]
            congr 6
            unfold tr
            simp
          have e2 : R (nx c) (3, Sd, C, 47 :: ws, n, cd ++ trL s) = R (nx (nx c)) (4, Sd, C, 47 :: ws, n, cd ++ trL s ++ [(nx c).2.2.1]) := e2
          rw [e2, e3]
          exact ih (nx (nx c)) _ v2 ht2 (by have := v2.1; have := v2.2.1; omega)
      · rw [if_neg h2]
        refine ⟨?_, fun c' s' e => by cases e⟩
        rw [e2]
        by_cases h3 : (nx c).1 = 0
        · rw [if_pos h3, if_neg (by decide)]
          rfl
        · rw [if_neg h3]
          unfold tQs
          rw [if_neg (by decide), if_neg (by decide), if_neg (by decide), if_pos rfl, if_neg (fun z => h2 (j9.mp z))]
          rfl
    · rw [if_neg h1]
      by_cases h2 : c.1 = 142
      · rw [if_pos h2]
        obtain ⟨v1, l1⟩ := nx_lt hn hc (by omega)
        have e1 : R c (4, Sd, C, ws, n, cd ++ trL s) = R (nx c) (2, Sd, C, 42 :: ws, n, cd ++ trL s) := by
          rw [hR c 4 Sd C ws n _ hc, if_neg (by omega)]
          unfold tQs
          rw [if_neg (by decide), if_neg (by decide), if_neg (by decide), if_neg (by decide), if_pos rfl, if_pos (k5.mpr (by omega)), k42.mpr h2]
          unfold tQb
          rw [fl_no (show lvt ws < lev 42 from hl), if_neg (by decide)]
        have e2 := r_unit hR v1 (ht c) (Sd := Sd) (C := C) (ws := 42 :: ws) (n := n) (cd := cd ++ trL s) (W := 2) (Or.inl rfl)
        have hpr := pUnit_prg hn v1
        rw [e1]
        cases hu : pUnit nx (nx c) with
        | inl e =>
          rw [hu] at e2
          exact ⟨e2, fun c' s' e => by cases e⟩
        | inr q =>
          rw [hu] at e2
          obtain ⟨v2, -, l2⟩ := hpr q.1 q.2 hu
          have ht2 : TkV q.1.1 := by
            unfold pUnit at hu
            split at hu
            · cases hu; exact ht _
            · cases hu
          have e3 : R q.1 (4, Sd, C, 42 :: ws, n, cd ++ trL s ++ trL q.2) = R q.1 (4, Sd, C, ws, n, cd ++ trL (s ++ q.2 ++ [(15, 0)])) := by
            rw [R_ir hR v2 (Or.inl rfl) (by decide) (by decide) (fun _ _ => by rcases ht2.cases with h | h | h | h | h | h | h | h | h | h | h | h | h | h | h | h | h | h | h | h | h | h | h | h | h <;> (rw [h]; decide)) (fun _ _ _ => by decide) (fun _ => by decide), trL_ap, trL_ap, trL_1]
            simp only [List.append_assoc]
            rfl
          rw [e2]
          show R q.1 (4, Sd, C, 42 :: ws, n, cd ++ trL s ++ trL q.2) = _ ∧ _
          rw [e3]
          exact ih q.1 _ v2 ht2 (by have := v2.1; have := v2.2.1; omega)
      · rw [if_neg h2]
        exact ⟨rfl, fun c' s' e => by cases e; exact ⟨hc, hv, h2, h1⟩⟩
end PM
