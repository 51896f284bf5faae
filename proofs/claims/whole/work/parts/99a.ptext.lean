/-! the machine reads a line, the text -/
section PQ
variable {T F : Nat} {nx : (Int × Nat × Int × Nat) → (Int × Nat × Int × Nat)} {R : (Int × Nat × Int × Nat) → zPS → (Int × Nat) ⊕ zPS}
/-- a line's end, or what is no end -/
theorem r_end (hR : Rs T nx R) (hn : NxOk T nx) (ht : ∀ c, TkV (nx c).1) {c : (Int × Nat × Int × Nat)} (hc : VC T c) (hv : TkV c.1) {W Sd : Int} {C : Bool} {n : Nat} {cd : List Int} (hW : W = 5 ∨ W = 4 ∧ ¬ 5 ≤ lev (kT c.1)) (hS : Sd ≠ 1) (h3 : Sd = 0 → c.1 ≠ 3) (h4 : Sd ≠ 0 → c.1 ≠ 4 ∧ c.1 ≠ 5) : (c.1 = 159 → R c (W, Sd, C, [], n, cd) = R (nx c) (0, Sd, C, [], n + 1, cd ++ [if C then -16 else -15])) ∧ (c.1 ≠ 159 → R c (W, Sd, C, [], n, cd) = .inl (1, c.2.1)) := by
  obtain ⟨-, -, -, -, k11, k12, k13, -, -, k41, k59, -⟩ := kT_spec hv
  constructor
  · intro h
    rw [r_tj hR hc hW hS (by omega), k59.mpr h]
    unfold tQj
    rw [if_pos ⟨rfl, rfl⟩]
    rfl
  · intro h
    by_cases h0 : c.1 = 0
    · rw [hR c W Sd C [] n cd hc, if_pos h0, if_neg (by omega)]
    · rw [r_tj hR hc hW hS h0]
      unfold tQj
      rw [if_neg (fun z => h (k59.mp z.1))]
      by_cases q : Sd = 0
      · rw [if_pos q, if_neg (fun z => h3 q (k11.mp z))]
      · obtain ⟨n4, n5⟩ := h4 q
        rw [if_neg q, if_neg (fun z => by rcases z with z | z; exact n4 (k12.mp z); exact n5 (k13.mp z)), if_neg (fun z => absurd z.2 (by decide))]
theorem r_line (hR : Rs T nx R) (hn : NxOk T nx) (ht : ∀ c, TkV (nx c).1) (hvn : ∀ c, VN (nx c)) (hF : T < F) {Sd : Int} {C : Bool} {n : Nat} (hn16 : n ≤ 16) {cd : List Int} {c : (Int × Nat × Int × Nat)} (hc : VC T c) (hv : TkV c.1) (h0 : c.1 ≠ 0) : (∀ e, pLine nx F n c = .inl e → R c (0, Sd, C, [], n, cd) = .inl e) ∧ (∀ c' s t, pLine nx F n c = .inr (c', s, t) → TkV c'.1 ∧ ∃ Sd' C', R c (0, Sd, C, [], n, cd) = R c' (0, Sd', C', [], n + 1, cd ++ lnC (s, t))) := by
  obtain ⟨-, -, -, k10, -⟩ := kT_spec hv
  have e0 := hR c 0 Sd C [] n cd hc
  rw [if_neg h0] at e0
  unfold pLine
  unfold tQs at e0
  rw [if_pos rfl] at e0
  by_cases h20 : c.1 = 20
  · rw [if_pos h20]
    rw [if_pos (k10.mpr h20)] at e0
    by_cases q16 : n = 16
    · rw [if_pos q16]
      rw [if_pos (by omega)] at e0
      exact ⟨fun e h => by cases h; exact e0, fun c' s t h => by cases h⟩
    · rw [if_neg q16]
      rw [if_neg (by omega)] at e0
      have e0 : R c (0, Sd, C, [], n, cd) = R (nx c) (2, 0, false, [], n, cd) := e0
      obtain ⟨v1, l1⟩ := nx_lt hn hc h0
      obtain ⟨e1, E1⟩ := r_sum hR hn ht hF (ws := []) (Sd := 0) (C := false) (n := n) (cd := cd) (W := 2) (show lvt [] < 5 by decide) v1 (ht c) (Or.inl rfl)
      rw [e0, e1]
      cases hu : pSum nx F (nx c) with
      | inl e => exact ⟨fun e' h => by cases h; rfl, fun c' s t h => by cases h⟩
      | inr q =>
        obtain ⟨d1, s1⟩ := q
        obtain ⟨v2, t2, a2⟩ := E1 d1 s1 hu
        obtain ⟨-, -, -, -, k11, -⟩ := kT_spec t2
        show (∀ e, (match pWhen nx F d1 with | .inl e => .inl e | .inr (c2, t) => if c2.1 = 159 then .inr (nx c2, s1, t) else .inl (1, c2.2.1) : ((Int × Nat) ⊕ ((Int × Nat × Int × Nat) × List (Int × Int) × List (Int × Int)))) = .inl e → R d1 (4, 0, false, [], n, cd ++ trL s1) = .inl e) ∧ (∀ c' s t, (match pWhen nx F d1 with | .inl e => .inl e | .inr (c2, t) => if c2.1 = 159 then .inr (nx c2, s1, t) else .inl (1, c2.2.1) : ((Int × Nat) ⊕ ((Int × Nat × Int × Nat) × List (Int × Int) × List (Int × Int)))) = .inr (c', s, t) → TkV c'.1 ∧ ∃ Sd' C', R d1 (4, 0, false, [], n, cd ++ trL s1) = R c' (0, Sd', C', [], n + 1, cd ++ lnC (s, t)))
        unfold pWhen
        by_cases h3 : d1.1 = 3
        · rw [if_pos h3]
          obtain ⟨v3, l3⟩ := nx_lt hn v2 (by omega)
          have e2 : R d1 (4, 0, false, [], n, cd ++ trL s1) = R (nx d1) (1, 1, true, [], n, cd ++ trL s1) := by
            rw [r_tj hR v2 (Or.inr ⟨rfl, a2⟩) (by decide) (by omega), k11.mpr h3]
            unfold tQj
            rw [if_neg (by decide), if_pos rfl, if_pos rfl]
            rfl
          obtain ⟨e3, E3⟩ := r_any0 hR hn ht hF (C := true) (n := n) (one := pOne nx F 8) (fun c hc => pOne_prg hn 8 hc) (ws := []) (show lvt [] < 1 by decide) (fun ws' y1 y2 c cd hc hv => r_one hR hn ht hF 8 ws' (by omega) (by rw [y2]; rfl) c cd hc hv) (nx d1) (cd ++ trL s1) v3 (ht d1)
          rw [e2]
          have hbe := pAny_be hvn F (nx d1) (hvn d1)
          unfold pAny at hbe ⊢
          cases hw : pJo nx (pJo nx (pOne nx F 8) 5 21 F) 4 22 F (nx d1) with
          | inl e =>
            rw [hw] at e3
            exact ⟨fun e' h => by cases h; exact e3, fun c' s t h => by cases h⟩
          | inr q =>
            obtain ⟨d2, t2'⟩ := q
            rw [hw] at e3 hbe
            obtain ⟨v4, t4, W4, hW4, e3⟩ := e3
            obtain ⟨n4, n5⟩ := E3 d2 t2' hw
            obtain ⟨y1, y2⟩ := r_end hR hn ht v4 t4 (Sd := 2) (C := true) (n := n) (cd := cd ++ trL s1 ++ trL t2') hW4 (by decide) (fun z => by cases z) (fun _ => ⟨n4, n5⟩)
            have hne : t2'.length ≠ 0 := fun z => (hbe d2 t2' rfl).1.ne (by decide) (List.length_eq_zero_iff.mp z)
            rw [e3]
            by_cases h159 : d2.1 = 159
            · rw [show (match (Sum.inr (d2, t2') : ((Int × Nat) ⊕ ((Int × Nat × Int × Nat) × List (Int × Int)))) with | .inl e => .inl e | .inr (c2, t) => if c2.1 = 159 then .inr (nx c2, s1, t) else .inl (1, c2.2.1) : ((Int × Nat) ⊕ ((Int × Nat × Int × Nat) × List (Int × Int) × List (Int × Int)))) = .inr (nx d2, s1, t2') from if_pos h159]
              refine ⟨fun e h => (by cases h), fun c' s t h => ?_⟩
              cases h
              refine ⟨ht _, 2, true, ?_⟩
              rw [y1 h159]
              unfold lnC
              rw [if_neg hne]
              simp only [List.append_assoc]
              rfl
            · rw [show (match (Sum.inr (d2, t2') : ((Int × Nat) ⊕ ((Int × Nat × Int × Nat) × List (Int × Int)))) with | .inl e => .inl e | .inr (c2, t) => if c2.1 = 159 then .inr (nx c2, s1, t) else .inl (1, c2.2.1) : ((Int × Nat) ⊕ ((Int × Nat × Int × Nat) × List (Int × Int) × List (Int × Int)))) = .inl (1, d2.2.1) from if_neg h159]
              exact ⟨fun e h => by cases h; exact y2 h159, fun c' s t h => by cases h⟩
        · rw [if_neg h3]
          obtain ⟨y1, y2⟩ := r_end hR hn ht v2 t2 (Sd := 0) (C := false) (n := n) (cd := cd ++ trL s1) (Or.inr ⟨rfl, a2⟩) (by decide) (fun _ => h3) (fun z => absurd rfl z)
          by_cases h159 : d1.1 = 159
          · rw [show (match (Sum.inr (d1, []) : ((Int × Nat) ⊕ ((Int × Nat × Int × Nat) × List (Int × Int)))) with | .inl e => .inl e | .inr (c2, t) => if c2.1 = 159 then .inr (nx c2, s1, t) else .inl (1, c2.2.1) : ((Int × Nat) ⊕ ((Int × Nat × Int × Nat) × List (Int × Int) × List (Int × Int)))) = .inr (nx d1, s1, []) from if_pos h159]
            refine ⟨fun e h => (by cases h), fun c' s t h => ?_⟩
            cases h
            refine ⟨ht _, 0, false, ?_⟩
            rw [y1 h159]
            show R (nx d1) (0, 0, false, [], n + 1, cd ++ trL s1 ++ [-15]) = R (nx d1) (0, 0, false, [], n + 1, cd ++ (trL s1 ++ [] ++ [-15]))
            rw [List.append_nil, List.append_assoc]
          · rw [show (match (Sum.inr (d1, []) : ((Int × Nat) ⊕ ((Int × Nat × Int × Nat) × List (Int × Int)))) with | .inl e => .inl e | .inr (c2, t) => if c2.1 = 159 then .inr (nx c2, s1, t) else .inl (1, c2.2.1) : ((Int × Nat) ⊕ ((Int × Nat × Int × Nat) × List (Int × Int) × List (Int × Int)))) = .inl (1, d1.2.1) from if_neg h159]
            exact ⟨fun e h => by cases h; exact y2 h159, fun c' s t h => by cases h⟩
  · rw [if_neg h20]
    rw [if_neg (fun z => h20 (k10.mp z))] at e0
    exact ⟨fun e h => by cases h; exact e0, fun c' s t h => by cases h⟩
theorem cdL_ad (ls : List (List (Int × Int) × List (Int × Int))) (l : List (Int × Int) × List (Int × Int)) : cdL (ls ++ [l]) = cdL ls ++ lnC l := by unfold cdL; rw [List.flatMap_append]; simp
theorem r_text (hR : Rs T nx R) (hn : NxOk T nx) (ht : ∀ c, TkV (nx c).1) (hvn : ∀ c, VN (nx c)) (hF : T < F) : ∀ (m : Nat) (c : (Int × Nat × Int × Nat)) (ls : List (List (Int × Int) × List (Int × Int))) (Sd : Int) (C : Bool), VC T c → TkV c.1 → ls.length ≤ 16 → T - c.2.1 < m → (∀ e, pText nx F m c ls = .inl e → R c (0, Sd, C, [], ls.length, cdL ls) = .inl e) ∧ (∀ ls', pText nx F m c ls = .inr ls' → ∃ Sd' C', R c (0, Sd, C, [], ls.length, cdL ls) = .inr (0, Sd', C', [], ls'.length, cdL ls')) := by
  intro m
  induction m with
  | zero => intro c ls Sd C hc hv hl hm; omega
  | succ m ih =>
    intro c ls Sd C hc hv hl hm
    rw [pText]
    by_cases h0 : c.1 = 0
    · rw [if_pos h0]
      refine ⟨fun e h => (by cases h), fun ls' h => ?_⟩
      cases h
      refine ⟨Sd, C, ?_⟩
      rw [hR c 0 Sd C [] _ _ hc, if_pos h0, if_pos rfl]
    · rw [if_neg h0]
      obtain ⟨y1, y2⟩ := r_line hR hn ht hvn hF (Sd := Sd) (C := C) hl (cd := cdL ls) hc hv h0
      cases hu : pLine nx F ls.length c with
      | inl e => exact ⟨fun e' h => by cases h; exact y1 e hu, fun ls' h => by cases h⟩
      | inr q =>
        obtain ⟨c', s, t⟩ := q
        obtain ⟨n16, v2, -, l2⟩ := pLine_prg hn hc hu
        obtain ⟨t2, Sd', C', e2⟩ := y2 c' s t hu
        have := v2.1
        have := v2.2.1
        obtain ⟨z1, z2⟩ := ih c' (ls ++ [(s, t)]) Sd' C' v2 t2 (by rw [List.length_append, List.length_singleton]; omega) (by omega)
        rw [List.length_append, List.length_singleton, cdL_ad] at z1 z2
        rw [e2]
        exact ⟨z1, z2⟩
/-- the machine, run -/
def Rn (nx : (Int × Nat × Int × Nat) → (Int × Nat × Int × Nat)) : Nat → (Int × Nat × Int × Nat) → zPS → (Int × Nat) ⊕ zPS
  | 0, c, _ => .inl (1, c.2.1)
  | m + 1, c, S => if c.1 = 0 then (if S.1 = 0 then .inr S else .inl (1, c.2.1)) else
    match tQs S.1 S.2.1 S.2.2.1 S.2.2.2.1 S.2.2.2.2.1 S.2.2.2.2.2 (kT c.1) c.2.2.1 with
    | .inl f => .inl (f, c.2.1)
    | .inr S' => Rn nx m (nx c) S'
theorem Rn_en (hn : NxOk T nx) : ∀ (m m' : Nat) (c : (Int × Nat × Int × Nat)) (S : zPS), VC T c → T - c.2.1 < m → T - c.2.1 < m' → Rn nx m c S = Rn nx m' c S
  | 0, _, c, S, _, h, _ => by omega
  | _ + 1, 0, c, S, _, _, h => by omega
  | m + 1, m' + 1, c, S, hc, h, h' => by
    rw [Rn, Rn]
    by_cases h0 : c.1 = 0
    · rw [if_pos h0, if_pos h0]
    · rw [if_neg h0, if_neg h0]
      obtain ⟨v1, l1⟩ := nx_lt hn hc h0
      have := v1.1
      have := v1.2.1
      cases tQs S.1 S.2.1 S.2.2.1 S.2.2.2.1 S.2.2.2.2.1 S.2.2.2.2.2 (kT c.1) c.2.2.1 with
      | inl f => rfl
      | inr S' => exact Rn_en hn m m' (nx c) S' v1 (by omega) (by omega)
theorem Rn_rs (hn : NxOk T nx) : Rs T nx (fun c S => Rn nx (T + 1 - c.2.1) c S) := by
  intro c W Sd C ws n cd hc
  have h1 := hc.1
  have h2 := hc.2.1
  show Rn nx (T + 1 - c.2.1) c (W, Sd, C, ws, n, cd) = _
  rw [show T + 1 - c.2.1 = (T - c.2.1) + 1 by omega, Rn]
  by_cases h0 : c.1 = 0
  · rw [if_pos h0, if_pos h0]
  · rw [if_neg h0, if_neg h0]
    obtain ⟨v1, l1⟩ := nx_lt hn hc h0
    have := v1.1
    have := v1.2.1
    show (match tQs W Sd C ws n cd (kT c.1) c.2.2.1 with | .inl f => .inl (f, c.2.1) | .inr S' => Rn nx (T - c.2.1) (nx c) S' : (Int × Nat) ⊕ zPS) = _
    cases tQs W Sd C ws n cd (kT c.1) c.2.2.1 with
    | inl f => rfl
    | inr S' => exact Rn_en hn _ _ (nx c) S' v1 (by omega) (by omega)
end PQ
