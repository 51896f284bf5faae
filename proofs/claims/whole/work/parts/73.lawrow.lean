/-! the model's row holds a law: its lines are reckoned -/
theorem opW_of {w : Nat → Int} {A B C : List (Int × Int)} (h : ∀ i, i < (A ++ B ++ C).length → w (550 + 2 * i) = ((A ++ B ++ C).getD i (0, 0)).1 ∧ w (550 + 2 * i + 1) = ((A ++ B ++ C).getD i (0, 0)).2) : opW w A.length (A ++ B).length = B := by
  apply List.ext_getElem
  · rw [opW_len, List.length_append]; omega
  · intro q h1 h2
    have h3 := h (A.length + q) (by rw [List.length_append, List.length_append]; omega)
    have h4 : (A ++ B ++ C).getD (A.length + q) (0, 0) = B[q] := by
      rw [List.getD_eq_getElem?_getD, List.append_assoc, List.getElem?_append_right (by omega), show A.length + q - A.length = q by omega, List.getElem?_append_left h2, List.getElem?_eq_getElem h2]
      rfl
    rw [h4] at h3
    simp only [opW, List.getElem_map, List.getElem_range]
    exact Prod.ext h3.1 h3.2
theorem flt_at {ls : List (List (Int × Int) × List (Int × Int))} {k : Nat} (h : k < ls.length) : flt ls = flt (ls.take k) ++ ls[k].1 ++ ls[k].2 ++ flt (ls.drop (k + 1)) := by
  have e : ls = ls.take k ++ (ls[k] :: ls.drop (k + 1)) := by
    rw [← List.drop_eq_getElem_cons h, List.take_append_drop]
  conv => lhs; rw [e]
  unfold flt
  rw [List.flatMap_append, List.flatMap_cons]
  simp only [List.append_assoc]
theorem flt_take1 {ls : List (List (Int × Int) × List (Int × Int))} {k : Nat} (h : k < ls.length) : flt (ls.take (k + 1)) = flt (ls.take k) ++ ls[k].1 ++ ls[k].2 := by
  rw [List.take_succ_eq_append_getElem h, flt_ad]
theorem LwAt.ln {w : Nat → Int} {ls : List (List (Int × Int) × List (Int × Int))} (h : LwAt w ls) {k : Nat} (hk : k < ls.length) : ∃ a b e : Nat, w (490 + k) = (a : Int) ∧ w (510 + k) = (b : Int) ∧ w (530 + k) = (e : Int) ∧ b = a + ls[k].1.length ∧ e = b + ls[k].2.length ∧ e ≤ (flt ls).length ∧ opW w a b = ls[k].1 ∧ opW w b e = ls[k].2 := by
  obtain ⟨h1, h2, h3⟩ := h
  obtain ⟨q1, q2, q3⟩ := h2 k hk
  have hg : ls.getD k ([], []) = ls[k] := by rw [List.getD_eq_getElem?_getD, List.getElem?_eq_getElem hk]; rfl
  rw [hg] at q2
  rw [flt_take1 hk] at q3
  have hf := flt_at hk
  refine ⟨_, _, _, q1, q2, q3, ?_, ?_, ?_, ?_, ?_⟩
  · rw [List.length_append]
  · rw [List.length_append]
  · rw [hf]; simp only [List.length_append]; omega
  · refine opW_of (C := ls[k].2 ++ flt (ls.drop (k + 1))) ?_
    rw [← List.append_assoc, ← hf]
    exact h3
  · refine opW_of (C := flt (ls.drop (k + 1))) ?_
    rw [← hf]
    exact h3
def LsOk (ls : List (List (Int × Int) × List (Int × Int))) : Prop := (∀ l, l ∈ ls → LiOk l) ∧ ls.length ≤ 16 ∧ (flt ls).length ≤ 400
theorem Be.ne {K : Nat} {s : List (Int × Int)} (h : Be K s) (hK : K ≤ 40) : s ≠ [] := by
  intro e
  have := h.1 0 (by omega)
  rw [e] at this
  cases this
theorem LwAt.ok {w : Nat → Int} {ls : List (List (Int × Int) × List (Int × Int))} (h : LwAt w ls) (hl : LsOk ls) : LwOk w := by
  have h0 := h.1
  have h16 := hl.2.1
  refine ⟨by omega, by omega, fun i hi => ?_⟩
  have hi : i < ls.length := by omega
  obtain ⟨a, b, e, q1, q2, q3, q4, q5, q6, q7, q8⟩ := h.ln hi
  have h4 := hl.2.2
  obtain ⟨p1, p2⟩ := hl.1 ls[i] (List.getElem_mem hi)
  rw [q1, q2, q3]
  refine ⟨by omega, by omega, by omega, by omega, ?_, ?_⟩
  · rw [Int.toNat_natCast, Int.toNat_natCast, q7]
    exact dpB_dpO (p1.1 0 (by omega))
  · rcases p2 with z | z
    · left
      rw [z] at q5
      simp at q5
      omega
    · right
      rw [Int.toNat_natCast, Int.toNat_natCast, q8]
      exact dpB_dpO (z.1 0 (by omega))
def evO (f : Nat → Int) (s : List (Int × Int)) : Int := (exO f s []).getD 0 0
def flC (f : Nat → Int) : List (List (Int × Int) × List (Int × Int)) → Int
  | [] => 0
  | l :: ls => if l.2.length = 0 ∨ evO f l.2 = 1 then evO f l.1 else flC f ls
theorem lnW_fl {w : Nat → Int} {ls : List (List (Int × Int) × List (Int × Int))} (f : Nat → Int) (h : LwAt w ls) : ∀ (n i : Nat), i + n = ls.length → lnW w f n i = clp (flC f (ls.drop i))
  | 0, i, hi => by
    rw [List.drop_eq_nil_iff.mpr (by omega)]
    rfl
  | n + 1, i, hi => by
    have hi' : i < ls.length := by omega
    obtain ⟨a, b, e, q1, q2, q3, q4, q5, q6, q7, q8⟩ := h.ln hi'
    rw [List.drop_eq_getElem_cons hi', lnW, flC, q1, q2, q3, lnW_fl f h n (i + 1) (by omega)]
    unfold evW
    rw [Int.toNat_natCast, Int.toNat_natCast, Int.toNat_natCast, q7, q8]
    by_cases z : ls[i].2.length = 0 ∨ evO f ls[i].2 = 1
    · rw [if_pos z, if_pos (by
        rcases z with z | z
        · left; omega
        · right; exact z)]
      rfl
    · rw [if_neg z, if_neg (by
        rintro (y | y)
        · exact z (Or.inl (by omega))
        · exact z (Or.inr y))]
theorem odW_fl {w : Nat → Int} {ls : List (List (Int × Int) × List (Int × Int))} (h : LwAt w ls) (p v : Nat) (t : Int) : odW w p v t = clp (flC (fcW w p v t) ls) := by
  unfold odW
  have := h.1
  rw [lnW_fl _ h _ 0 (by omega)]
  rfl
/-- the law asks for the run -/
def ask (ls : List (List (Int × Int) × List (Int × Int))) : Prop := ∃ l, l ∈ ls ∧ ∃ o, (o ∈ l.1 ∨ o ∈ l.2) ∧ o.1 = (6 : Int)
theorem exO_cg {f f' : Nat → Int} (hf : ∀ s, s ≠ 6 → f' s = f s) : ∀ (s : List (Int × Int)) (st : List Int), (∀ o, o ∈ s → o.1 ≠ (6 : Int)) → exO f' s st = exO f s st
  | [], st, _ => rfl
  | o :: s, st, h => by
    rw [exO, exO, exO_cg hf s _ (fun x hx => h x (List.mem_cons_of_mem _ hx))]
    congr 1
    unfold opE
    by_cases h1 : o.1 < 13
    · rw [if_pos h1, if_pos h1]
      by_cases h2 : o.1 = 0
      · rw [if_pos h2, if_pos h2]
      · rw [if_neg h2, if_neg h2]
        by_cases h3 : o.1.toNat = 6
        · exact absurd (by omega) (h o List.mem_cons_self)
        · rw [hf _ h3]
    · rw [if_neg h1, if_neg h1]
theorem flC_cg {f f' : Nat → Int} (hf : ∀ s, s ≠ 6 → f' s = f s) : ∀ (ls : List (List (Int × Int) × List (Int × Int))), ¬ ask ls → flC f' ls = flC f ls
  | [], _ => rfl
  | l :: ls, h => by
    have h1 : ∀ o, o ∈ l.1 → o.1 ≠ (6 : Int) := fun o ho e => h ⟨l, List.mem_cons_self, o, Or.inl ho, e⟩
    have h2 : ∀ o, o ∈ l.2 → o.1 ≠ (6 : Int) := fun o ho e => h ⟨l, List.mem_cons_self, o, Or.inr ho, e⟩
    rw [flC, flC, flC_cg hf ls (fun ⟨x, hx, q⟩ => h ⟨x, List.mem_cons_of_mem _ hx, q⟩)]
    unfold evO
    rw [exO_cg hf _ _ h1, exO_cg hf _ _ h2]
