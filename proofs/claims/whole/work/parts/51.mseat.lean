/-! the model: seating -/
theorem cn_ins {P : Nat → Bool} {a : Nat} (hP : P a = false) : ∀ {n : Nat}, a < n → cn (fun x => decide (x = a) || P x) n = cn P n + 1
  | 0, h => by omega
  | n + 1, h => by
    rw [cn, cn]
    by_cases e : a = n
    · subst e
      rw [cn_cg (Q := P) (fun r hr => by simp [show r ≠ a by omega]), hP]
      simp
    · rw [cn_ins hP (show a < n by omega)]
      simp only [show n ≠ a by omega, decide_false, Bool.false_or]
      omega
theorem cn_all {P : Nat → Bool} : ∀ {n : Nat}, cn P n = n → ∀ x, x < n → P x = true
  | 0, _, x, hx => by omega
  | n + 1, h, x, hx => by
    rw [cn] at h
    have := cn_le P n
    by_cases hp : P n = true
    · rw [if_pos hp] at h
      by_cases e : x = n
      · rw [e]; exact hp
      · exact cn_all (n := n) (by omega) x (by omega)
    · rw [if_neg hp] at h
      omega
theorem cn_none : ∀ n, cn (fun _ => false) n = 0
  | 0 => rfl
  | n + 1 => by rw [cn, cn_none n]; rfl
theorem cn_mem {n : Nat} : ∀ {l : List Nat}, l.Nodup → (∀ x, x ∈ l → x < n) → cn (fun x => decide (x ∈ l)) n = l.length
  | [], _, _ => by
    rw [cn_cg (Q := fun _ => false) (fun r _ => by simp), cn_none]
    rfl
  | a :: l, h, hl => by
    have hn := List.nodup_cons.mp h
    rw [cn_cg (Q := fun x => decide (x = a) || decide (x ∈ l)) (fun r _ => by simp [Bool.decide_or])]
    rw [cn_ins (decide_eq_false hn.1) (hl a (by simp)), cn_mem hn.2 (fun x hx => hl x (by simp [hx]))]
    rfl
/-- an order that is full has everybody -/
theorem full {n : Nat} {l : List Nat} (h : l.Nodup) (hl : ∀ x, x ∈ l → x < n) (hn : l.length = n) : ∀ p, p < n → p ∈ l := by
  intro p hp
  have := cn_mem h hl
  exact of_decide_eq_true (cn_all (this.trans hn) p hp)
def seR (w : Nat → Int) (n : Nat) (l : List Nat) : Nat → Int := fun i => if 28 ≤ i ∧ i < 28 + n then (l.idxOf (i - 28) : Int) else w i
def SeIn (w : Nat → Int) (n : Nat) (l : List Nat) (r : Nat → Int) : Prop := (∀ i, ¬ (28 ≤ i ∧ i < 28 + n) → r i = w i) ∧ ∀ k, k < l.length → r (28 + l.getD k 0) = (k : Int)
theorem SeIn.eq {w r : Nat → Int} {n : Nat} {l : List Nat} (h : SeIn w n l r) (hf : ∀ p, p < n → p ∈ l) : r = seR w n l := by
  funext i
  unfold seR
  by_cases q : 28 ≤ i ∧ i < 28 + n
  · rw [if_pos q]
    have hm := hf (i - 28) (by omega)
    have hi := List.idxOf_lt_length_of_mem hm
    have := h.2 (l.idxOf (i - 28)) hi
    rw [List.getD_eq_getElem?_getD, List.getElem?_eq_getElem hi, Option.getD_some, List.getElem_idxOf, show 28 + (i - 28) = i by omega] at this
    exact this
  · rw [if_neg q, h.1 i q]
theorem seR_pe {w : Nat → Int} {n : Nat} {l : List Nat} (hw : w 17 = (n : Int)) (hn : 0 < n ∧ n ≤ 8) (h : l.Nodup) (hl : ∀ x, x ∈ l → x < n) (hlen : l.length = n) : PeOk (seR w n l) := by
  have hf := full h hl hlen
  have e17 : seR w n l 17 = (n : Int) := by unfold seR; rw [if_neg (by omega)]; exact hw
  have ei : ∀ p, p < n → seR w n l (28 + p) = (l.idxOf p : Int) := fun p hp => by unfold seR; rw [if_pos (by omega), show 28 + p - 28 = p by omega]
  refine ⟨by rw [e17]; omega, by rw [e17]; omega, ?_⟩
  unfold SeOk
  rw [e17]
  refine ⟨fun p hp => ?_, fun p q hp hq he => ?_, fun s hs => ?_⟩
  · rw [ei p (by omega)]
    have := List.idxOf_lt_length_of_mem (hf p (by omega))
    omega
  · rw [ei p (by omega), ei q (by omega)] at he
    have a1 := List.idxOf_lt_length_of_mem (hf p (by omega))
    have a2 := List.getElem_idxOf a1
    have b1 := List.idxOf_lt_length_of_mem (hf q (by omega))
    have b2 := List.getElem_idxOf b1
    have he : l.idxOf p = l.idxOf q := by omega
    rw [← a2, ← b2]
    congr 1
  · have hs : s < l.length := by omega
    refine ⟨l[s], by have := hl _ (List.getElem_mem hs); omega, ?_⟩
    rw [ei _ (hl _ (List.getElem_mem hs))]
    have := List.Nodup.idxOf_getElem h s hs
    omega
def stS (n : Nat) (F : List Nat → Int) : Nat → List Nat → Int × List Nat → Int × List Nat
  | 0, l, q => if q.1 < F l then (F l, l) else q
  | m + 1, l, q => (List.range' 0 n).foldl (fun q p => if p ∈ l then q else stS n F m (l ++ [p]) q) q
def BeAt (g : zG) (q : Int × List Nat) : Prop := g 12 0 30 = q.1 ∧ ∀ k, k < q.2.length → g 56 0 k = (q.2.getD k 0 : Int)
def sSi : Nat → Nat → Nat → Prop := fun k j i => sCur k j i ∨ (k = 46 ∧ j = 0 ∧ 28 ≤ i ∧ i < 36) ∨ (k = 56 ∧ j = 0) ∨ (k = 12 ∧ j = 0 ∧ i = 30)
theorem m_siL (d n : Nat) (hn : n ≤ 8) (x : Nat → Nat) (hx : ∀ p, p < n → x p < n) (hj : ∀ p q, p < n → q < n → x p = x q → p = q) (a b v : Int) (u : Option zV) (w : Nat → Int) (hw : ∀ p, p < n → w (28 + p) = (x p : Int)) : ∀ (m i : Nat) (g : zG), i + m = n → g 46 0 = w → (∀ p, p < i → g 56 0 (x p) = (p : Int)) → ∃ g', Ev d 241 45 [some (.inr (12, 0)), some (.inl a), some (.inl b), some (.inl v), some (.inl (n : Int)), u, some (.inl (i : Int))] [] g = some (none, g') ∧ Fr (fun k j _ => k = 56 ∧ j = 0) g g' ∧ ∀ p, p < n → g' 56 0 (x p) = (p : Int) := by
  intro m
  induction m with
  | zero =>
    intro i g h hg hp
    refine ⟨g, ?_, Fr.rf, fun p q => hp p (by omega)⟩
    rw [e241_45]
    simp only [e241_0, e241_1, e241_4, e241_6, e241_7, e241_9, e241_10, e241_12, e241_15, e241_16, e241_19, e241_20, e241_21, e241_24, e241_26, e241_28, e241_29, e241_32, e241_35, e241_36, e241_37, e241_39, e241_42, e241_43, e241_47, e241_49, e241_52, e241_53, e241_56, e241_57, e241_60, e241_62, e241_64, e241_65, e241_66, e241_68, e241_69, e241_72, e241_75, e241_76, e241_77, e241_81, e241_83, e241_86, e241_87, e241_89, e241_90, e241_91, e241_92, e241_93, e241_96, e241_99, e241_100, e241_103, e241_105, e241_107, e241_108, e241_109, e241_110, e241_111, e241_112, e241_113, e241_114, e241_115, e241_116, e241_118, e241_119, e241_120, e241_121, e241_124, e241_127, e241_130, zU_app, zbI_some, zbV_some, Int.reduceToNat, Int.reduceLE, Int.reduceLT, Int.reduceEq, Nat.reduceEqDiff, and_self, and_true, true_and, and_false, false_and, if_true, if_false, ne_eq, not_true_eq_false, not_false_eq_true, reduceCtorEq]
    rw [if_pos (by omega)]
  | succ m ih =>
    intro i g h hg hp
    obtain ⟨g', a1, a2, a3⟩ := ih (i + 1) (zU g 56 0 (x i) (i : Int)) (by omega) ((zU_fn (by omega)).trans hg) (fun p q => by
      by_cases e : p = i
      · rw [e, zU_eq]
      · rw [zU_ne (fun z => e (hj p i (by omega) (by omega) z.2.2))]
        exact hp p (by omega))
    refine ⟨g', ?_, fun k j y hy => by rw [a2 k j y hy, zU_ne (fun z => hy ⟨z.1, z.2.1⟩)], a3⟩
    have hi := hx i (by omega)
    rw [← a1, e241_45]
    simp only [e241_0, e241_1, e241_4, e241_6, e241_7, e241_9, e241_10, e241_12, e241_15, e241_16, e241_19, e241_20, e241_21, e241_24, e241_26, e241_28, e241_29, e241_32, e241_35, e241_36, e241_37, e241_39, e241_42, e241_43, e241_47, e241_49, e241_52, e241_53, e241_56, e241_57, e241_60, e241_62, e241_64, e241_65, e241_66, e241_68, e241_69, e241_72, e241_75, e241_76, e241_77, e241_81, e241_83, e241_86, e241_87, e241_89, e241_90, e241_91, e241_92, e241_93, e241_96, e241_99, e241_100, e241_103, e241_105, e241_107, e241_108, e241_109, e241_110, e241_111, e241_112, e241_113, e241_114, e241_115, e241_116, e241_118, e241_119, e241_120, e241_121, e241_124, e241_127, e241_130, zU_app, zbI_some, zbV_some, Int.reduceToNat, Int.reduceLE, Int.reduceLT, Int.reduceEq, Nat.reduceEqDiff, and_self, and_true, true_and, and_false, false_and, if_true, if_false, ne_eq, not_true_eq_false, not_false_eq_true, reduceCtorEq, hg]
    rw [if_neg (by omega), zwr_id (x := 28 + (i : Int)) (by omega) (by omega), if_pos (by omega), show (28 + (i : Int)).toNat = 28 + i by omega, hw i (by omega), if_pos (by omega), zwr_id (by omega) (by omega), Int.toNat_natCast]
    rfl
theorem m_sits0 {w : Nat → Int} {n : Nat} (hR : ∀ l, RuOk (seR w n l)) (hL : ∀ l, LwOk (seR w n l)) (d : Nat) (l : List Nat) (b : Int) (v : Nat) (q : Int × List Nat) (g : zG) (hw : w 17 = (n : Int)) (hn : 0 < n ∧ n ≤ 8) (hv : 0 < v ∧ v < 10000) (h : l.Nodup) (hl : ∀ x, x ∈ l → x < n) (hlen : l.length = n) (hS : SeIn w n l (g 46 0)) (hB : BeAt g q) :
    ∃ g', EvM (d + 4) 241 [.inr (12, 0), .inl (n : Int), .inl b, .inl (v : Int)] g = some (none, g') ∧ SeIn w n l (g' 46 0) ∧ BeAt g' (if q.1 < gtW (seR w n l) (v - 1) 1 0 1 0 1000000 then (gtW (seR w n l) (v - 1) 1 0 1 0 1000000, l) else q) ∧ Fr sSi g g' := by
  have hf := full h hl hlen
  have hr := hS.eq hf
  have e17 : g 46 0 17 = (n : Int) := by rw [hS.1 17 (by omega)]; exact hw
  have e17' : seR w n l 17 = (n : Int) := by rw [← hr]; exact e17
  obtain ⟨g1, a1, a2, a3⟩ := m_anew' (hR l) d g hr
  obtain ⟨g2, b1, b2⟩ := m_getsTo (hR l) (hL l) (seR_pe hw hn h hl hlen) d v 1 (by omega) (by omega) _ _ _ g1 a2 ⟨by omega, by rw [e17']; omega, Or.inl rfl⟩
  have f2 := a3.tr b2
  have r2 : g2 46 0 = g 46 0 := f2.fn (fun i => by simp [sCur])
  have c30 : g2 12 0 30 = q.1 := by rw [f2 12 0 30 (by simp [sCur])]; exact hB.1
  have start : EvM (d + 4) 241 [.inr (12, 0), .inl (n : Int), .inl b, .inl (v : Int)] g = if q.1 < gtW (seR w n l) (v - 1) 1 0 1 0 1000000 then Ev (d + 4) 241 45 [some (.inr (12, 0)), some (.inl (n : Int)), some (.inl b), some (.inl (v : Int)), some (.inl (n : Int)), some (.inl (gtW (seR w n l) (v - 1) 1 0 1 0 1000000)), some (.inl 0)] [] (zU g2 12 0 30 (gtW (seR w n l) (v - 1) 1 0 1 0 1000000)) else some (none, g2) := by
    rw [en241]
    simp only [e241_0, e241_1, e241_4, e241_6, e241_7, e241_9, e241_10, e241_12, e241_15, e241_16, e241_19, e241_20, e241_21, e241_24, e241_26, e241_28, e241_29, e241_32, e241_35, e241_36, e241_37, e241_39, e241_42, e241_43, e241_47, e241_49, e241_52, e241_53, e241_56, e241_57, e241_60, e241_62, e241_64, e241_65, e241_66, e241_68, e241_69, e241_72, e241_75, e241_76, e241_77, e241_81, e241_83, e241_86, e241_87, e241_89, e241_90, e241_91, e241_92, e241_93, e241_96, e241_99, e241_100, e241_103, e241_105, e241_107, e241_108, e241_109, e241_110, e241_111, e241_112, e241_113, e241_114, e241_115, e241_116, e241_118, e241_119, e241_120, e241_121, e241_124, e241_127, e241_130, zU_app, zbI_some, zbV_some, Int.reduceToNat, Int.reduceLE, Int.reduceLT, Int.reduceEq, Nat.reduceEqDiff, and_self, and_true, true_and, and_false, false_and, if_true, if_false, ne_eq, not_true_eq_false, not_false_eq_true, reduceCtorEq, e17, a1, b1, c30]
  rw [start]
  by_cases hq : q.1 < gtW (seR w n l) (v - 1) 1 0 1 0 1000000
  · rw [if_pos hq, if_pos hq]
    have ix : ∀ p, p < n → l.idxOf p < n := fun p hp => by have := List.idxOf_lt_length_of_mem (hf p hp); omega
    have rw28 : ∀ p, p < n → g 46 0 (28 + p) = (l.idxOf p : Int) := fun p hp => by rw [hr]; unfold seR; rw [if_pos (by omega), show 28 + p - 28 = p by omega]
    obtain ⟨g3, c1, c2, c3⟩ := m_siL (d + 4) n hn.2 l.idxOf ix (fun p q hp hq he => by
      have a1 := List.idxOf_lt_length_of_mem (hf p hp)
      have a2 := List.getElem_idxOf a1
      have b1 := List.idxOf_lt_length_of_mem (hf q hq)
      have b2 := List.getElem_idxOf b1
      rw [← a2, ← b2]
      congr 1) (n : Int) b (v : Int) (some (.inl (gtW (seR w n l) (v - 1) 1 0 1 0 1000000))) (g 46 0) rw28 n 0 (zU g2 12 0 30 (gtW (seR w n l) (v - 1) 1 0 1 0 1000000)) (by omega) ((zU_fn (by omega)).trans r2) (fun p hp => by omega)
    refine ⟨g3, c1, ?_, ⟨?_, ?_⟩, ?_⟩
    · rw [c2.fn (fun i => by omega), zU_fn (by omega), r2]; exact hS
    · rw [c2 12 0 30 (by omega), zU_eq]
    · intro k hk
      have hk : k < l.length := hk
      have := c3 (l[k]) (hl _ (List.getElem_mem hk))
      rw [List.Nodup.idxOf_getElem h k hk] at this
      show g3 56 0 k = (l.getD k 0 : Int)
      rw [this, List.getD_eq_getElem?_getD, List.getElem?_eq_getElem hk, Option.getD_some]
    · intro k j i hi
      rw [c2 k j i (fun z => hi (Or.inr (Or.inr (Or.inl z)))), zU_ne (fun z => hi (Or.inr (Or.inr (Or.inr z)))), f2 k j i (fun z => hi (Or.inl z))]
  · rw [if_neg hq, if_neg hq]
    refine ⟨g2, rfl, by rw [r2]; exact hS, ⟨c30, fun k hk => ?_⟩, f2.up (fun _ _ _ z => Or.inl z)⟩
    rw [f2 56 0 k (by simp [sCur])]
    exact hB.2 k hk
