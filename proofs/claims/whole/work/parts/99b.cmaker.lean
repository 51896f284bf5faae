/-! THE CLASS: the maker of laws, its small methods -/
def ltp (x : Int) : Nat := if x = 12 then 1 else if x = 13 then 2 else if x = 60 ∨ x = 61 ∨ x = 62 then 3 else if x = 43 ∨ x = 45 then 4 else if x = 42 ∨ x = 47 then 5 else 0
def ltt : List Int → Nat
  | [] => 0
  | x :: _ => ltp x
def WsOk : List Int → Prop
  | [] => True
  | x :: r => WsOk r ∧ r.length + 1 ≤ 3 * opn (x :: r) + ltp x ∧ ((8 ≤ x ∧ x < 100) ∧ (1 ≤ lev x ∨ x = 40))
def PsI (W : Int) (ws : List Int) : Prop := WsOk ws ∧ opn ws ≤ 8 ∧ (W = 1 → ltt ws ≤ 2)
theorem ltp_le (x : Int) : ltp x ≤ 5 := by 
  unfold ltp
  repeat' split
  all_goals omega
theorem ws_len {ws : List Int} (h : WsOk ws) (ho : opn ws ≤ 8) : ws.length ≤ 3 * opn ws + ltt ws ∧ ws.length ≤ 29 := by
  cases ws with
  | nil => exact ⟨by simp, by simp⟩
  | cons x r =>
    obtain ⟨-, h2, -⟩ := h
    have := ltp_le x
    rw [List.length_cons]
    exact ⟨h2, by omega⟩
theorem fl_ok (l : Nat) : ∀ (ws cd : List Int), WsOk ws → WsOk (fl l ws cd).1 ∧ opn (fl l ws cd).1 ≤ opn ws ∧ (fl l ws cd).1.length + (fl l ws cd).2.length = ws.length + cd.length ∧ (lvt (fl l ws cd).1 < l ∨ (fl l ws cd).1 = [])
  | [], cd, h => ⟨h, Nat.le_refl _, rfl, Or.inr rfl⟩
  | x :: ws, cd, h => by
    rw [fl]
    by_cases q : l ≤ lev x
    · rw [if_pos q]
      obtain ⟨a1, a2, a3, a4⟩ := fl_ok l ws (cd ++ [-x]) h.1
      refine ⟨a1, by rw [opn]; omega, ?_, a4⟩
      rw [a3, List.length_append, List.length_singleton, List.length_cons]
      omega
    · rw [if_neg q]
      exact ⟨h, Nat.le_refl _, rfl, Or.inl (show lev x < l by omega)⟩
theorem lev_cases (x : Int) : (x = 12 ∧ lev x = 1 ∧ ltp x = 1) ∨ (x = 13 ∧ lev x = 2 ∧ ltp x = 2) ∨ (x = 14 ∧ lev x = 3 ∧ ltp x = 0) ∨ ((x = 60 ∨ x = 61 ∨ x = 62) ∧ lev x = 4 ∧ ltp x = 3) ∨ ((x = 43 ∨ x = 45) ∧ lev x = 5 ∧ ltp x = 4) ∨ ((x = 42 ∨ x = 47) ∧ lev x = 6 ∧ ltp x = 5) ∨ (lev x = 0 ∧ ltp x = 0 ∧ (x ≠ 12 ∧ x ≠ 13 ∧ x ≠ 14 ∧ x ≠ 42 ∧ x ≠ 43 ∧ x ≠ 45 ∧ x ≠ 47 ∧ x ≠ 60 ∧ x ≠ 61 ∧ x ≠ 62)) := by
  by_cases h1 : x = 12
  · subst h1; exact Or.inl (by decide)
  · by_cases h2 : x = 13
    · subst h2; exact Or.inr (Or.inl (by decide))
    · by_cases h3 : x = 14
      · subst h3; exact Or.inr (Or.inr (Or.inl (by decide)))
      · by_cases h4 : x = 60 ∨ x = 61 ∨ x = 62
        · refine Or.inr (Or.inr (Or.inr (Or.inl ⟨h4, ?_⟩)))
          rcases h4 with h | h | h <;> (subst h; decide)
        · by_cases h5 : x = 43 ∨ x = 45
          · refine Or.inr (Or.inr (Or.inr (Or.inr (Or.inl ⟨h5, ?_⟩))))
            rcases h5 with h | h <;> (subst h; decide)
          · by_cases h6 : x = 42 ∨ x = 47
            · refine Or.inr (Or.inr (Or.inr (Or.inr (Or.inr (Or.inl ⟨h6, ?_⟩)))))
              rcases h6 with h | h <;> (subst h; decide)
            · refine Or.inr (Or.inr (Or.inr (Or.inr (Or.inr (Or.inr ⟨?_, ?_, by omega⟩)))))
              · unfold lev; rw [if_neg h1, if_neg h2, if_neg h3, if_neg h4, if_neg h5, if_neg h6]
              · unfold ltp; rw [if_neg h1, if_neg h2, if_neg h4, if_neg h5, if_neg h6]
theorem lev_ltp {x y : Int} (h : lev y < lev x) (h14 : x ≠ 14) : ltp y < ltp x := by
  have a := lev_cases x
  have b := lev_cases y
  omega
/-- one more waits -/
theorem PsI.push {ws : List Int} {x W : Int} (h : WsOk ws) (ho : opn ws ≤ 8) (hl : lvt ws < lev x ∨ ws = [] ∧ 1 ≤ lev x) (hx : (8 ≤ x ∧ x < 100) ∧ x ≠ 14 ∧ x ≠ 40) (hW : W = 1 → ltp x ≤ 2) : PsI W (x :: ws) := by
  have e : opn (x :: ws) = opn ws := by rw [opn, if_neg (by omega), Nat.add_zero]
  have hlen := (ws_len h ho).1
  have hlt : ltt ws < ltp x := by
    cases ws with
    | nil =>
      have a := lev_cases x
      show 0 < ltp x
      have : 1 ≤ lev x := by
        rcases hl with q | q
        · have : lvt [] = 0 := rfl
          omega
        · exact q.2
      omega
    | cons y r =>
      rcases hl with q | q
      · exact lev_ltp q hx.2.1
      · cases q.1
  have hl1 : 1 ≤ lev x := by rcases hl with q | q <;> omega
  exact ⟨⟨h, by rw [e]; omega, hx.1, Or.inl hl1⟩, by rw [e]; exact ho, hW⟩
theorem PsI.opg {ws : List Int} {x : Int} (h : PsI 1 ws) (ho : opn ws < 8) (hx : x = 14 ∨ x = 40) : PsI 1 (x :: ws) := by
  have e : opn (x :: ws) = opn ws + 1 := by rw [opn, if_pos (by omega)]
  have hlen := (ws_len h.1 h.2.1).1
  have h2 := h.2.2 rfl
  have hp : ltp x = 0 := by rcases hx with q | q <;> (rw [q]; decide)
  have hl1 : 1 ≤ lev x ∨ x = 40 := by rcases hx with q | q; exact Or.inl (by rw [q]; decide); exact Or.inr q
  exact ⟨⟨h.1, by rw [e]; omega, by omega, hl1⟩, by rw [e]; omega, fun _ => by show ltp x ≤ 2; omega⟩
def EmAt (g : zG) (n : Nat) (cd : List Int) : Prop := g 3 2 0 = (n : Int) ∧ g 3 2 2 = (cd.length : Int) ∧ (∀ i, i < cd.length → g 28 2 i = cd.getD i 0) ∧ (g 3 2 1 = 0 ∨ g 3 2 1 = 1) ∧ (g 3 2 1 = 1 ↔ (-6 : Int) ∈ cd)
def LmAt (g : zG) (W Sd : Int) (C : Bool) (ws : List Int) (n : Nat) (cd : List Int) : Prop := g 4 0 2 = W ∧ g 4 0 3 = Sd ∧ g 4 0 4 = zbo C ∧ g 4 0 5 = (brk ws : Int) ∧ g 4 0 6 = (opn ws : Int) ∧ g 4 0 8 = (ws.length : Int) ∧ PlR (g 31 0) ws ∧ EmAt g n cd
def sLm : Nat → Nat → Nat → Prop := fun k a x => (k = 4 ∧ a = 0) ∨ (k = 31 ∧ a = 0) ∨ (k = 3 ∧ a = 2 ∧ x < 3) ∨ (k = 28 ∧ a = 2)
def sEm : Nat → Nat → Nat → Prop := fun k a x => (k = 3 ∧ a = 2 ∧ (x = 1 ∨ x = 2)) ∨ (k = 28 ∧ a = 2)
theorem ap_get {cd : List Int} {x : Int} {i : Nat} : (cd ++ [x]).getD i 0 = if i < cd.length then cd.getD i 0 else if i = cd.length then x else 0 := by
  rw [List.getD_eq_getElem?_getD]
  by_cases h : i < cd.length
  · rw [List.getElem?_append_left h, if_pos h, ← List.getD_eq_getElem?_getD]
  · rw [List.getElem?_append_right (by omega), if_neg h]
    by_cases q : i = cd.length
    · rw [if_pos q, show i - cd.length = 0 by omega]; rfl
    · rw [if_neg q, List.getElem?_eq_none (by simp; omega)]; rfl
theorem k_emit (d n : Nat) (x : Int) (cd : List Int) (g : zG) (h : EmAt g n cd) (hl : cd.length < 400) : ∃ g', EvM d 99 [.inr (3, 2), .inl x] g = some (none, g') ∧ EmAt g' n (cd ++ [x]) ∧ Fr sEm g g' := by
  obtain ⟨h1, h2, h3, h4, h5⟩ := h
  have z1 : zwr ((cd.length : Int) + 1) = ((cd.length + 1 : Nat) : Int) := by rw [zwr_id (by omega) (by omega)]; omega
  let g1 := zU (zU g 28 2 cd.length x) 3 2 2 ((cd.length + 1 : Nat) : Int)
  have f1 : Fr sEm g g1 := (Fr.u (by unfold sEm; omega)).tr (Fr.u (by unfold sEm; omega))
  have code : ∀ i, i < (cd ++ [x]).length → g1 28 2 i = (cd ++ [x]).getD i 0 := by
    intro i hi
    rw [List.length_append, List.length_singleton] at hi
    rw [ap_get]
    show zU g 28 2 cd.length x 28 2 i = _
    by_cases q : i < cd.length
    · rw [if_pos q, zU_ne (by omega)]; exact h3 i q
    · have : i = cd.length := by omega
      subst this
      rw [if_neg q, if_pos rfl, zU_eq]
  by_cases hx : x = -6
  · refine ⟨zU g1 3 2 1 1, ?_, ⟨h1, by rw [List.length_append]; rfl, code, Or.inr rfl, ⟨fun _ => by rw [hx]; simp, fun _ => rfl⟩⟩, f1.tr (Fr.u (by unfold sEm; omega))⟩
    rw [en99]
    simp only [e99_0, e99_1, e99_4, e99_7, e99_10, e99_11, e99_14, e99_15, e99_18, e99_19, e99_20, e99_21, e99_22, e99_25, e99_26, e99_27, e99_30, e99_31, e99_33, e99_36, e99_37, e99_38, e99_41, zU_app, zbI_some, zbV_some, Int.reduceToNat, Int.reduceLE, Int.reduceLT, Int.reduceEq, Nat.reduceEqDiff, and_self, and_true, true_and, and_false, false_and, if_true, if_false, ne_eq, not_true_eq_false, not_false_eq_true, reduceCtorEq, eq_self, true_or, or_true, or_false, false_or, zbR_some, h2, Int.toNat_natCast, z1]
    rw [if_neg (by omega), if_pos (by omega), if_neg (fun z => z hx)]
  · refine ⟨g1, ?_, ⟨h1, by rw [List.length_append]; rfl, code, h4, ?_⟩, f1⟩
    · rw [en99]
      simp only [e99_0, e99_1, e99_4, e99_7, e99_10, e99_11, e99_14, e99_15, e99_18, e99_19, e99_20, e99_21, e99_22, e99_25, e99_26, e99_27, e99_30, e99_31, e99_33, e99_36, e99_37, e99_38, e99_41, zU_app, zbI_some, zbV_some, Int.reduceToNat, Int.reduceLE, Int.reduceLT, Int.reduceEq, Nat.reduceEqDiff, and_self, and_true, true_and, and_false, false_and, if_true, if_false, ne_eq, not_true_eq_false, not_false_eq_true, reduceCtorEq, eq_self, true_or, or_true, or_false, false_or, zbR_some, h2, Int.toNat_natCast, z1]
      rw [if_neg (by omega), if_pos (by omega), if_pos hx]
    · show g 3 2 1 = 1 ↔ _
      rw [h5, List.mem_append, List.mem_singleton]
      exact ⟨fun q => Or.inl q, fun q => q.resolve_right (fun z => hx z.symm)⟩
theorem k_level (d : Nat) (t : Int) (g : zG) : EvM d 101 [.inl t] g = some (some (.inl (lev t : Int)), g) := by
  rw [en101]
  rcases lev_cases t with ⟨h, e, -⟩ | ⟨h, e, -⟩ | ⟨h, e, -⟩ | ⟨h, e, -⟩ | ⟨h, e, -⟩ | ⟨h, e, -⟩ | ⟨e, -, h⟩
  · rw [e, h]; simp only [e101_0, e101_1_c0, e101_1_c1, e101_1_c2, e101_1_c3, e101_1_c4, e101_1_c5, e101_1_c6, e101_1_c7, e101_1_c8, e101_1_c9, e101_1_def, e101_92, e101_93, e101_94, e101_95, e101_96, e101_97, e101_98, e101_99, e101_100, e101_101, e101_102, e101_104, e101_105, e101_106]; rfl
  · rw [e, h]; simp only [e101_0, e101_1_c0, e101_1_c1, e101_1_c2, e101_1_c3, e101_1_c4, e101_1_c5, e101_1_c6, e101_1_c7, e101_1_c8, e101_1_c9, e101_1_def, e101_92, e101_93, e101_94, e101_95, e101_96, e101_97, e101_98, e101_99, e101_100, e101_101, e101_102, e101_104, e101_105, e101_106]; rfl
  · rw [e, h]; simp only [e101_0, e101_1_c0, e101_1_c1, e101_1_c2, e101_1_c3, e101_1_c4, e101_1_c5, e101_1_c6, e101_1_c7, e101_1_c8, e101_1_c9, e101_1_def, e101_92, e101_93, e101_94, e101_95, e101_96, e101_97, e101_98, e101_99, e101_100, e101_101, e101_102, e101_104, e101_105, e101_106]; rfl
  · rw [e]; rcases h with h | h | h <;> (rw [h]; simp only [e101_0, e101_1_c0, e101_1_c1, e101_1_c2, e101_1_c3, e101_1_c4, e101_1_c5, e101_1_c6, e101_1_c7, e101_1_c8, e101_1_c9, e101_1_def, e101_92, e101_93, e101_94, e101_95, e101_96, e101_97, e101_98, e101_99, e101_100, e101_101, e101_102, e101_104, e101_105, e101_106]; rfl)
  · rw [e]; rcases h with h | h <;> (rw [h]; simp only [e101_0, e101_1_c0, e101_1_c1, e101_1_c2, e101_1_c3, e101_1_c4, e101_1_c5, e101_1_c6, e101_1_c7, e101_1_c8, e101_1_c9, e101_1_def, e101_92, e101_93, e101_94, e101_95, e101_96, e101_97, e101_98, e101_99, e101_100, e101_101, e101_102, e101_104, e101_105, e101_106]; rfl)
  · rw [e]; rcases h with h | h <;> (rw [h]; simp only [e101_0, e101_1_c0, e101_1_c1, e101_1_c2, e101_1_c3, e101_1_c4, e101_1_c5, e101_1_c6, e101_1_c7, e101_1_c8, e101_1_c9, e101_1_def, e101_92, e101_93, e101_94, e101_95, e101_96, e101_97, e101_98, e101_99, e101_100, e101_101, e101_102, e101_104, e101_105, e101_106]; rfl)
  · rw [e]
    simp only [e101_0, e101_92, e101_93, e101_94, e101_95, e101_96, e101_97, e101_98, e101_99, e101_100, e101_101, e101_102, e101_104, e101_105, e101_106]
    rw [e101_1_def _ _ _ _ h]
    simp only [e101_0, e101_92, e101_93, e101_94, e101_95, e101_96, e101_97, e101_98, e101_99, e101_100, e101_101, e101_102, e101_104, e101_105, e101_106]
    rfl
theorem LmAt.em {g g' : zG} {W Sd : Int} {C : Bool} {ws : List Int} {n n' : Nat} {cd cd' : List Int} (h : LmAt g W Sd C ws n cd) (he : EmAt g' n' cd') (hf : ∀ k a x, k = 4 ∨ k = 31 → g' k a x = g k a x) : LmAt g' W Sd C ws n' cd' := by
  obtain ⟨h1, h2, h3, h4, h5, h6, h7, h8⟩ := h
  refine ⟨?_, ?_, ?_, ?_, ?_, ?_, ?_, he⟩
  · rw [hf 4 0 2 (by omega)]; exact h1
  · rw [hf 4 0 3 (by omega)]; exact h2
  · rw [hf 4 0 4 (by omega)]; exact h3
  · rw [hf 4 0 5 (by omega)]; exact h4
  · rw [hf 4 0 6 (by omega)]; exact h5
  · rw [hf 4 0 8 (by omega)]; exact h6
  · intro k hk; rw [hf 31 0 _ (by omega)]; exact h7 k hk
theorem EmAt.fr {g g' : zG} {n : Nat} {cd : List Int} (h : EmAt g n cd) (hf : ∀ k x, k = 3 ∨ k = 28 → g' k 2 x = g k 2 x) : EmAt g' n cd := by
  obtain ⟨h1, h2, h3, h4, h5⟩ := h
  refine ⟨by rw [hf 3 0 (by omega)]; exact h1, by rw [hf 3 2 (by omega)]; exact h2, fun i hi => by rw [hf 28 i (by omega)]; exact h3 i hi, by rw [hf 3 1 (by omega)]; exact h4, by rw [hf 3 1 (by omega)]; exact h5⟩
theorem k_jwL (d l : Nat) (hl : 1 ≤ l) : ∀ (ws cd : List Int) (x : Int) (W Sd : Int) (C : Bool) (n : Nat) (g : zG), x = (ws.length : Int) - 1 → WsOk ws → ws.length ≤ 29 → opn ws ≤ 8 → ws.length + cd.length ≤ 400 → LmAt g W Sd C ws n cd → ∃ g', Ev (d + 1) 104 7 [some (.inr (4, 0)), some (.inl (l : Int)), some (.inl x)] [] g = some (none, g') ∧ LmAt g' W Sd C (fl l ws cd).1 n (fl l ws cd).2 ∧ Fr sLm g g' := by
  intro ws
  induction ws with
  | nil =>
    intro cd x W Sd C n g hx hw h29 ho hlen h
    refine ⟨g, ?_, h, Fr.rf⟩
    have hx : x = -1 := by rw [hx]; rfl
    subst hx
    rw [e104_7]
    simp only [e104_0, e104_1, e104_4, e104_5, e104_6, e104_8, e104_11, e104_12, e104_14, e104_17, e104_18, e104_21, e104_22, e104_23, e104_26, e104_27, e104_30, e104_31, e104_34, e104_35, e104_36, e104_38, e104_41, e104_42, e104_43, e104_46, e104_47, e104_48, e104_51, e104_52, e104_55, e104_56, e104_59, e104_60, e104_61, e104_62, e104_65, e104_66, e104_67, e104_70, e104_73, e104_76, zU_app, zbI_some, zbV_some, Int.reduceToNat, Int.reduceLE, Int.reduceLT, Int.reduceEq, Nat.reduceEqDiff, and_self, and_true, true_and, and_false, false_and, if_true, if_false, ne_eq, not_true_eq_false, not_false_eq_true, reduceCtorEq, eq_self, true_or, or_true, or_false, false_or, zbR_some]
  | cons y ws ih =>
    intro cd x W Sd C n g hx hw h29 ho hlen h
    obtain ⟨h1, h2, h3, h4, h5, h6, h7, h8⟩ := h
    rw [List.length_cons] at hx h29 hlen
    have hx : x = (ws.length : Int) := by omega
    subst hx
    have top := h7.hd
    obtain ⟨w1, w2, w3⟩ := hw
    rw [e104_7]
    rw [fl]
    by_cases hq : l ≤ lev y
    · rw [if_pos hq]
      have y40 : y ≠ 40 := fun z => by rw [z] at hq; have : lev 40 = 0 := by decide
                                       omega
      have zo : zwr (-y) = -y := zwr_id (by omega) (by omega)
      have zk : zwr ((ws.length : Int) + -1) = (ws.length : Int) - 1 := by rw [zwr_id (by omega) (by omega)]; omega
      let g1 := if y = 14 then zU g 4 0 6 (opn ws : Int) else g
      have f1 : Fr sLm g g1 := by
        show Fr sLm g (if y = 14 then zU g 4 0 6 (opn ws : Int) else g)
        split
        · exact Fr.u (by unfold sLm; omega)
        · exact Fr.rf
      have n1 : ∀ k a x, ¬ (k = 4 ∧ a = 0 ∧ x = 6) → g1 k a x = g k a x := fun k a x hk => by
        show (if y = 14 then zU g 4 0 6 (opn ws : Int) else g) k a x = _
        split
        · exact zU_ne hk
        · rfl
      have o1 : g1 4 0 6 = (opn ws : Int) := by
        show (if y = 14 then zU g 4 0 6 (opn ws : Int) else g) 4 0 6 = _
        split
        · exact zU_eq _ _ _ _ _
        · rename_i q
          rw [h5, opn, if_neg (by omega), Nat.add_zero]
      obtain ⟨g2, e2, E2, f2⟩ := k_emit d n (-y) cd g1 (h8.fr (fun k x q => n1 k 2 x (by omega))) (by omega)
      let g3 := zU g2 4 0 8 (ws.length : Int)
      have n2 : ∀ k a x, k = 4 ∨ k = 31 → g2 k a x = g1 k a x := fun k a x q => f2 k a x (by unfold sEm; omega)
      have L3 : LmAt g3 W Sd C ws n (cd ++ [-y]) := by
        refine ⟨?_, ?_, ?_, ?_, ?_, rfl, ?_, ?_⟩
        · show g2 4 0 2 = _
          rw [n2 _ _ _ (by omega), n1 _ _ _ (by omega)]; exact h1
        · show g2 4 0 3 = _
          rw [n2 _ _ _ (by omega), n1 _ _ _ (by omega)]; exact h2
        · show g2 4 0 4 = _
          rw [n2 _ _ _ (by omega), n1 _ _ _ (by omega)]; exact h3
        · show g2 4 0 5 = _
          rw [n2 _ _ _ (by omega), n1 _ _ _ (by omega), h4, brk, if_neg y40, Nat.add_zero]
        · show g2 4 0 6 = _
          rw [n2 _ _ _ (by omega)]; exact o1
        · intro k hk
          show g2 31 0 _ = _
          rw [n2 _ _ _ (by omega), n1 _ _ _ (by omega)]; exact h7.tl k hk
        · exact E2.fr (fun k x q => zU_ne (by omega))
      have f3 : Fr sLm g g3 := (f1.tr (f2.up (fun k a x q => by unfold sEm at q; unfold sLm; omega))).tr (Fr.u (by unfold sLm; omega))
      have ho' : opn ws ≤ 8 := by rw [opn] at ho; omega
      obtain ⟨g4, e4, L4, f4⟩ := ih (cd ++ [-y]) ((ws.length : Int) - 1) W Sd C n g3 rfl w1 (by omega) ho' (by rw [List.length_append, List.length_singleton]; omega) L3
      refine ⟨g4, ?_, L4, f3.tr f4⟩
      have t1 : g1 31 0 ws.length = y := by rw [n1 _ _ _ (by omega)]; exact top
      have mid : Ev (d + 1) 104 51 [some (.inr (4, 0)), some (.inl (l : Int)), some (.inl (ws.length : Int))] [] g1 = Ev (d + 1) 104 7 [some (.inr (4, 0)), some (.inl (l : Int)), some (.inl ((ws.length : Int) - 1))] [] g3 := by
        simp (disch := omega) only [e104_0, e104_1, e104_4, e104_5, e104_6, e104_8, e104_11, e104_12, e104_14, e104_17, e104_18, e104_21, e104_22, e104_23, e104_26, e104_27, e104_30, e104_31, e104_34, e104_35, e104_36, e104_38, e104_41, e104_42, e104_43, e104_46, e104_47, e104_48, e104_51, e104_52, e104_55, e104_56, e104_59, e104_60, e104_61, e104_62, e104_65, e104_66, e104_67, e104_70, e104_73, e104_76, zU_app, zbI_some, zbV_some, Int.reduceToNat, Int.reduceLE, Int.reduceLT, Int.reduceEq, Nat.reduceEqDiff, and_self, and_true, true_and, and_false, false_and, if_true, if_false, ne_eq, not_true_eq_false, not_false_eq_true, reduceCtorEq, eq_self, true_or, or_true, or_false, false_or, zbR_some, if_pos, if_neg, Int.toNat_natCast, t1, zo, e2, zk]
        rfl
      rw [← e4, ← mid]
      simp only [e104_0, e104_1, e104_4, e104_5, e104_6, e104_8, e104_11, e104_12, e104_14, e104_17, e104_18, e104_21, e104_22, e104_23, e104_26, e104_27, e104_30, e104_31, e104_34, e104_35, e104_36, e104_38, e104_41, e104_42, e104_43, e104_46, e104_47, e104_48, e104_52, e104_55, e104_56, e104_59, e104_60, e104_61, e104_62, e104_65, e104_66, e104_67, e104_70, e104_73, e104_76, zU_app, zbI_some, zbV_some, Int.reduceToNat, Int.reduceLE, Int.reduceLT, Int.reduceEq, Nat.reduceEqDiff, and_self, and_true, true_and, and_false, false_and, if_true, if_false, ne_eq, not_true_eq_false, not_false_eq_true, reduceCtorEq, eq_self, true_or, or_true, or_false, false_or, zbR_some, Int.toNat_natCast, top, k_level]
      rw [if_neg (by omega), if_neg (by omega), if_pos (by omega), if_neg (by omega), if_pos (by omega)]
      show _ = Ev _ _ _ _ _ (if y = 14 then zU g 4 0 6 (opn ws : Int) else g)
      by_cases q : y = 14
      · have zn : zwr (g 4 0 6 - 1) = (opn ws : Int) := by
          rw [h5, opn, if_pos (Or.inr q), zwr_id (by omega) (by omega)]
          omega
        rw [if_neg (fun z => z q), if_pos q, zn]
      · rw [if_pos q, if_neg q]
    · rw [if_neg hq]
      refine ⟨g, ?_, ⟨h1, h2, h3, h4, h5, h6, h7, h8⟩, Fr.rf⟩
      simp only [e104_0, e104_1, e104_4, e104_5, e104_6, e104_8, e104_11, e104_12, e104_14, e104_17, e104_18, e104_21, e104_22, e104_23, e104_26, e104_27, e104_30, e104_31, e104_34, e104_35, e104_36, e104_38, e104_41, e104_42, e104_43, e104_46, e104_47, e104_48, e104_51, e104_52, e104_55, e104_56, e104_59, e104_60, e104_61, e104_62, e104_65, e104_66, e104_67, e104_70, e104_73, e104_76, zU_app, zbI_some, zbV_some, Int.reduceToNat, Int.reduceLE, Int.reduceLT, Int.reduceEq, Nat.reduceEqDiff, and_self, and_true, true_and, and_false, false_and, if_true, if_false, ne_eq, not_true_eq_false, not_false_eq_true, reduceCtorEq, eq_self, true_or, or_true, or_false, false_or, zbR_some, Int.toNat_natCast, top, k_level]
      rw [if_neg (by omega), if_neg (by omega), if_pos (by omega), if_pos (by omega)]
