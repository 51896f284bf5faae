/-! the model in thought: who, whose, get, hardest -/
def whS (w : Nat → Int) (s : Int) : Nat → Nat → Nat
  | 0, p => p
  | n + 1, p => if w (28 + p) = s then p else whS w s n (p + 1)
def whoW (w : Nat → Int) (s : Int) : Nat := whS w s 8 0
theorem whS_spec {w : Nat → Int} {s : Int} : ∀ {n p q : Nat}, p ≤ q → q < p + n → w (28 + q) = s → p ≤ whS w s n p ∧ whS w s n p ≤ q ∧ w (28 + whS w s n p) = s := by
  intro n
  induction n with
  | zero => intro p q h1 h2; omega
  | succ n ih =>
    intro p q h1 h2 h3
    rw [whS]
    by_cases h : w (28 + p) = s
    · rw [if_pos h]
      exact ⟨Nat.le_refl _, h1, h⟩
    · rw [if_neg h]
      have : p ≠ q := fun e => h (by rw [e]; exact h3)
      have := ih (p := p + 1) (q := q) (by omega) (by omega) h3
      exact ⟨by omega, this.2.1, this.2.2⟩
theorem m_whoL (d : Nat) (s : Int) (g : zG) : ∀ (n p : Nat), p + n ≤ 8 → (∃ q, p ≤ q ∧ q < p + n ∧ g 46 0 (28 + q) = s) → Ev d 170 2 [some (.inr (12, 0)), some (.inl s), some (.inl (p : Int))] [] g = some (some (.inl (whS (g 46 0) s n p : Int)), g) := by
  intro n
  induction n with
  | zero => rintro p - ⟨q, h1, h2, -⟩; omega
  | succ n ih =>
    rintro p hp ⟨q, h1, h2, h3⟩
    rw [e170_2]
    simp only [e170_0, e170_1, e170_3, e170_6, e170_8, e170_9, e170_10, e170_11, e170_12, e170_15, e170_18, e170_21, e170_22]
    rw [zwr_id (x := 28 + (p : Int)) (by omega) (by omega), if_pos (by omega), show (28 + (p : Int)).toNat = 28 + p by omega, whS]
    by_cases h : g 46 0 (28 + p) = s
    · rw [if_pos h, if_pos h]
    · rw [if_neg h, if_neg h, zwr_id (by omega) (by omega)]
      have : p ≠ q := fun e => h (by rw [e]; exact h3)
      exact ih (p + 1) (by omega) ⟨q, by omega, by omega, h3⟩
/-- seats: everybody on one of his own -/
def SeOk (w : Nat → Int) : Prop := (∀ p : Nat, (p : Int) < w 17 → 0 ≤ w (28 + p) ∧ w (28 + p) < w 17) ∧ (∀ p q : Nat, (p : Int) < w 17 → (q : Int) < w 17 → w (28 + p) = w (28 + q) → p = q) ∧ ∀ s : Nat, (s : Int) < w 17 → ∃ p : Nat, (p : Int) < w 17 ∧ w (28 + p) = s
def PeOk (w : Nat → Int) : Prop := 0 < w 17 ∧ w 17 ≤ 8 ∧ SeOk w
theorem whoW_spec {w : Nat → Int} (h : PeOk w) {s : Int} (h0 : 0 ≤ s) (h1 : s < w 17) : (whoW w s : Int) < w 17 ∧ whoW w s < 8 ∧ w (28 + whoW w s) = s := by
  obtain ⟨p, p1, p2⟩ := h.2.2.2.2 s.toNat (by omega)
  have := h.2.1
  have hq := whS_spec (w := w) (s := s) (n := 8) (p := 0) (q := p) (by omega) (by omega) (by omega)
  unfold whoW
  exact ⟨by omega, by omega, hq.2.2⟩
theorem m_whoOn {w : Nat → Int} (h : PeOk w) (d : Nat) (s : Int) (g : zG) (hw : g 46 0 = w) (h0 : 0 ≤ s) (h1 : s < w 17) : EvM d 170 [.inr (12, 0), .inl s] g = some (some (.inl (whoW w s : Int)), g) := by
  subst hw
  obtain ⟨p, p1, p2⟩ := h.2.2.2.2 s.toNat (by omega)
  have := h.2.1
  rw [en170]
  simp only [e170_0, e170_1, e170_3, e170_6, e170_8, e170_9, e170_10, e170_11, e170_12, e170_15, e170_18, e170_21, e170_22]
  exact m_whoL d s g 8 0 (by omega) ⟨p, by omega, by omega, by omega⟩
/-- the place in counting -/
def CuAt (g : zG) (w : Nat → Int) (n : Nat) (s wy t : Int) : Prop := g 46 0 = w ∧ g 12 0 22 = (n : Int) ∧ g 12 0 23 = s ∧ g 12 0 24 = wy ∧ g 12 0 25 = t ∧ g 12 0 26 = (rnW w n : Int)
def CuOk (w : Nat → Int) (n : Nat) (s wy : Int) : Prop := (0 < n ∧ n < 10000) ∧ (0 ≤ s ∧ s < w 17) ∧ (wy = 1 ∨ wy = -1)
def sCur : Nat → Nat → Nat → Prop := fun k j i => k = 52 ∨ k = 53 ∨ (k = 12 ∧ j = 0 ∧ 22 ≤ i ∧ i ≤ 26)
theorem wyW_ok {w : Nat → Int} {n : Nat} {wy : Int} (h : wy = 1 ∨ wy = -1) : wyW w n wy = 1 ∨ wyW w n wy = -1 := by
  unfold wyW
  rcases h with q | q <;> rw [q] <;> split <;> simp
theorem CuOk.on {w : Nat → Int} {n : Nat} {s wy : Int} (hp : 0 < w 17) (h : CuOk w n s wy) : CuOk w (nxN n) (seW w n s wy) (wyW w n wy) := by
  refine ⟨nxN_rng h.1.2, ⟨Int.emod_nonneg _ (by omega), Int.emod_lt_of_pos _ hp⟩, wyW_ok h.2.2⟩
theorem m_goes' {w : Nat → Int} (hR : RuOk w) (hp : 0 < w 17 ∧ w 17 ≤ 8) (d n : Nat) (s wy t : Int) (g : zG) (h : CuAt g w n s wy t) (ho : CuOk w n s wy) : ∃ g', EvM (d + 2) 180 [.inr (12, 0)] g = some (none, g') ∧ CuAt g' w (nxN n) (seW w n s wy) (wyW w n wy) (tuW w n) ∧ Fr sCur g g' := by
  obtain ⟨h1, h2, h3, h4, h5, h6⟩ := h
  subst h1
  refine ⟨_, m_goesOn d g hR hp n h2 ho.1 (by rw [h3]; have := ho.2.1; omega) (by rw [h4]; exact ho.2.2) h6, ⟨?_, rfl, ?_, ?_, rfl, rfl⟩, ?_⟩
  · exact mCu_fn (by omega)
  · show seW _ _ _ _ = _; rw [h3, h4]
  · show wyW _ _ _ = _; rw [h4]
  · intro k j i hk
    have : ¬ (k = 12 ∧ j = 0 ∧ 22 ≤ i ∧ i ≤ 26) := fun q => hk (Or.inr (Or.inr q))
    by_cases hq : k = 12 ∧ j = 0
    · obtain ⟨rfl, rfl⟩ := hq
      exact mCu_ne (by omega)
    · rw [mCu_fn hq]
theorem m_odds' {w : Nat → Int} (hR : RuOk w) (hL : LwOk w) (d p n : Nat) (s wy t : Int) (g : zG) (h : CuAt g w n s wy t) (hn : 0 < n ∧ n < 10000) (hp : p < 8) : ∃ g', EvM (d + 2) 171 [.inr (12, 0), .inl (p : Int)] g = some (some (.inl (odW w p n t)), g') ∧ CuAt g' w n s wy t ∧ Fr sCur g g' := by
  obtain ⟨h1, h2, h3, h4, h5, h6⟩ := h
  subst h1
  obtain ⟨g', c1, c2⟩ := m_oddsFor d p n g hR hL hp h2 hn h6
  rw [h5] at c1
  refine ⟨g', c1, ⟨c2.fn (fun i => by simp [sOdds]), ?_, ?_, ?_, ?_, ?_⟩, c2.up (fun k j i q => by rcases q with q | q; exact Or.inl q; exact Or.inr (Or.inl q))⟩
  · rw [c2 12 0 22 (by simp [sOdds])]; exact h2
  · rw [c2 12 0 23 (by simp [sOdds])]; exact h3
  · rw [c2 12 0 24 (by simp [sOdds])]; exact h4
  · rw [c2 12 0 25 (by simp [sOdds])]; exact h5
  · rw [c2 12 0 26 (by simp [sOdds])]; exact h6
theorem clp_rng (x : Int) : 0 ≤ clp x ∧ clp x ≤ 1000 := by unfold clp; split; omega; split <;> omega
theorem lnW_rng (w f : Nat → Int) : ∀ n i, 0 ≤ lnW w f n i ∧ lnW w f n i ≤ 1000
  | 0, _ => by simp [lnW]
  | n + 1, i => by
    rw [lnW]
    split
    · exact clp_rng _
    · exact lnW_rng w f n (i + 1)
theorem odW_rng (w : Nat → Int) (p v : Nat) (t : Int) : 0 ≤ odW w p v t ∧ odW w p v t ≤ 1000 := lnW_rng _ _ _ _
/-- a number's odds for who is on its seat -/
def osW (w : Nat → Int) (n : Nat) (s t : Int) : Int := odW w (whoW w s) n t
def chS (c o : Int) : Int := c * (1000 - o) / 1000
theorem chS_rng {c o : Int} (hc : 0 ≤ c ∧ c ≤ 1000000) (ho : 0 ≤ o ∧ o ≤ 1000) : 0 ≤ chS c o ∧ chS c o ≤ c := by
  unfold chS
  have h1 : 0 ≤ c * (1000 - o) := Int.mul_nonneg hc.1 (by omega)
  have h2 : c * (1000 - o) ≤ c * 1000 := Int.mul_le_mul_of_nonneg_left (by omega) hc.1
  omega
theorem chS_j {c o : Int} (hc : 0 ≤ c ∧ c ≤ 1000000) (ho : 0 ≤ o ∧ o ≤ 1000) : zwr (Int.tdiv (zwr (c * zwr (1000 - o))) 1000) = chS c o := by
  have h1 : 0 ≤ c * (1000 - o) := Int.mul_nonneg hc.1 (by omega)
  have h2 : c * (1000 - o) ≤ c * 1000 := Int.mul_le_mul_of_nonneg_left (by omega) hc.1
  have h3 := chS_rng hc ho
  rw [zwr_id (x := 1000 - o) (by omega) (by omega), zwr_id (x := c * (1000 - o)) (by omega) (by omega), Int.tdiv_eq_ediv_of_nonneg h1]
  exact zwr_id (by unfold chS at h3; omega) (by unfold chS at h3; omega)
/-- how likely from here over k numbers more -/
def gtW (w : Nat → Int) : Nat → Nat → Int → Int → Int → Int → Int
  | 0, n, s, _, t, c => chS c (osW w n s t)
  | k + 1, n, s, wy, t, c => gtW w k (nxN n) (seW w n s wy) (wyW w n wy) (tuW w n) (chS c (osW w n s t))
theorem m_getsL {w : Nat → Int} (hR : RuOk w) (hL : LwOk w) (hP : PeOk w) (d v : Nat) (hv : v < 10000) : ∀ (k n : Nat) (s wy t c : Int) (g : zG), n + k = v → CuAt g w n s wy t → CuOk w n s wy → (0 ≤ c ∧ c ≤ 1000000) → ∃ g', Ev (d + 3) 203 4 [some (.inr (12, 0)), some (.inl (v : Int)), some (.inl c)] [] g = some (some (.inl (gtW w k n s wy t c)), g') ∧ Fr sCur g g' := by
  intro k
  induction k with
  | zero =>
    intro n s wy t c g hk h ho hc
    obtain ⟨w1, w2, w3⟩ := whoW_spec hP ho.2.1.1 ho.2.1.2
    obtain ⟨g1, a1, a2, a3⟩ := m_odds' hR hL d (whoW w s) n s wy t g h ho.1 w2
    refine ⟨g1, ?_, a3⟩
    rw [e203_4]
    simp only [e203_0, e203_3, e203_5, e203_8, e203_9, e203_10, e203_11, e203_14, e203_17, e203_20, e203_21, e203_22, e203_25, e203_26, e203_27, e203_28, e203_31, e203_32, e203_35, e203_36, e203_37, e203_38, e203_41, h.2.2.1, m_whoOn hP _ s g h.1 ho.2.1.1 ho.2.1.2, zbI_some, a1]
    rw [if_neg (by decide), chS_j hc (odW_rng _ _ _ _), a2.2.1, if_neg (by omega)]
    rfl
  | succ k ih =>
    intro n s wy t c g hk h ho hc
    obtain ⟨w1, w2, w3⟩ := whoW_spec hP ho.2.1.1 ho.2.1.2
    obtain ⟨g1, a1, a2, a3⟩ := m_odds' hR hL d (whoW w s) n s wy t g h ho.1 w2
    obtain ⟨g2, b1, b2, b3⟩ := m_goes' hR ⟨hP.1, hP.2.1⟩ d n s wy t g1 a2 ho
    have hn : nxN n = n + 1 := if_neg (by omega)
    have hc' := chS_rng hc (odW_rng w (whoW w s) n t)
    obtain ⟨g3, e1, e2⟩ := ih (nxN n) _ _ _ (chS c (osW w n s t)) g2 (by omega) b2 (ho.on hP.1) (by unfold osW; omega)
    refine ⟨g3, ?_, (a3.tr b3).tr e2⟩
    rw [e203_4]
    simp only [e203_0, e203_3, e203_5, e203_8, e203_9, e203_10, e203_11, e203_14, e203_17, e203_20, e203_21, e203_22, e203_25, e203_26, e203_27, e203_28, e203_31, e203_32, e203_35, e203_36, e203_37, e203_38, e203_41, h.2.2.1, m_whoOn hP _ s g h.1 ho.2.1.1 ho.2.1.2, zbI_some, a1]
    rw [if_neg (by decide), chS_j hc (odW_rng _ _ _ _), a2.2.1, if_pos (by omega), b1, zbV_some]
    exact e1
theorem m_getsTo {w : Nat → Int} (hR : RuOk w) (hL : LwOk w) (hP : PeOk w) (d v n : Nat) (hv : v < 10000) (hn : n ≤ v) (s wy t : Int) (g : zG) (h : CuAt g w n s wy t) (ho : CuOk w n s wy) : ∃ g', EvM (d + 3) 203 [.inr (12, 0), .inl (v : Int)] g = some (some (.inl (gtW w (v - n) n s wy t 1000000)), g') ∧ Fr sCur g g' := by
  obtain ⟨g', c1, c2⟩ := m_getsL hR hL hP d v hv (v - n) n s wy t 1000000 g (by omega) h ho (by decide)
  refine ⟨g', ?_, c2⟩
  rw [en203]
  simp only [e203_0, e203_3, e203_5, e203_8, e203_9, e203_10, e203_11, e203_14, e203_17, e203_20, e203_21, e203_22, e203_25, e203_26, e203_27, e203_28, e203_31, e203_32, e203_35, e203_36, e203_37, e203_38, e203_41]
  exact c1
theorem m_canCome (d : Nat) (v : Int) (g : zG) : EvM (d + 1) 199 [.inr (12, 0), .inl v] g = some (some (.inl (zb (0 < g 46 0 17 ∧ g 46 0 0 ≤ v ∧ v ≤ 9999))), g) := by
  rw [en199]
  simp only [e199_0, e199_1, e199_4, e199_6, e199_7, e199_10, e199_11, e199_12, e199_15, e199_16, e199_17, e199_20, e199_23, e199_26, e199_27, e199_30, e199_31, zU_app, zbI_some, zbV_some, Int.reduceToNat, Int.reduceLE, Int.reduceLT, Int.reduceEq, Nat.reduceEqDiff, and_self, and_true, true_and, and_false, false_and, if_true, if_false, ne_eq, not_true_eq_false, not_false_eq_true, reduceCtorEq, m_isIn]
  by_cases h1 : 0 < g 46 0 17
  · rw [if_neg (by omega)]
    by_cases h2 : g 46 0 0 ≤ v ∧ v ≤ 9999
    · rw [zb_t h2, if_neg (by decide), zb_t ⟨h1, h2.1, h2.2⟩]; simp
    · rw [zb_f h2, if_pos rfl, zb_f (fun q => h2 ⟨q.2.1, q.2.2⟩)]; simp
  · rw [if_pos (by omega), zb_f (fun q => h1 q.1)]; simp
/-- the model begins where it is -/
theorem m_begin' {w : Nat → Int} (hR : RuOk w) (d : Nat) (g : zG) (hw : g 46 0 = w) (h0 : 0 < w 0 ∧ w 0 < 10000) : ∃ g', EvM (d + 3) 165 [.inr (12, 0)] g = some (none, g') ∧ CuAt g' w (w 0).toNat (w 1) (w 2) (w 3) ∧ Fr sCur g g' := by
  subst hw
  refine ⟨_, m_beginsNow d g hR (g 46 0 0).toNat (by omega) (by omega), ⟨mCu_fn (by omega), rfl, rfl, rfl, rfl, rfl⟩, ?_⟩
  intro k j i hk
  have : ¬ (k = 12 ∧ j = 0 ∧ 22 ≤ i ∧ i ≤ 26) := fun q => hk (Or.inr (Or.inr q))
  by_cases hq : k = 12 ∧ j = 0
  · obtain ⟨rfl, rfl⟩ := hq
    exact mCu_ne (by omega)
  · rw [mCu_fn hq]
theorem m_anew' {w : Nat → Int} (hR : RuOk w) (d : Nat) (g : zG) (hw : g 46 0 = w) : ∃ g', EvM (d + 3) 213 [.inr (12, 0)] g = some (none, g') ∧ CuAt g' w 1 0 1 0 ∧ Fr sCur g g' := by
  subst hw
  refine ⟨_, m_beginsAnew d g hR, ⟨mCu_fn (by omega), rfl, rfl, rfl, rfl, rfl⟩, ?_⟩
  intro k j i hk
  have : ¬ (k = 12 ∧ j = 0 ∧ 22 ≤ i ∧ i ≤ 26) := fun q => hk (Or.inr (Or.inr q))
  by_cases hq : k = 12 ∧ j = 0
  · obtain ⟨rfl, rfl⟩ := hq
    exact mCu_ne (by omega)
  · rw [mCu_fn hq]
/-- where counting stands -/
def NoOk (w : Nat → Int) : Prop := (0 < w 0 ∧ w 0 < 10000) ∧ (0 ≤ w 1 ∧ (0 < w 17 → w 1 < w 17)) ∧ (w 2 = 1 ∨ w 2 = -1) ∧ (w 3 = 0 ∨ w 3 = 1)
def aGet (w : Nat → Int) (x : Int) : Int := if 0 < w 17 ∧ w 0 ≤ x ∧ x ≤ 9999 then gtW w (x - w 0).toNat (w 0).toNat (w 1) (w 2) (w 3) 1000000 else -1
theorem m_get {w : Nat → Int} (hR : RuOk w) (hL : LwOk w) (hP : 0 < w 17 → PeOk w) (hN : NoOk w) (d : Nat) (x : Int) (g : zG) (hw : g 46 0 = w) : ∃ g', EvM (d + 4) 202 [.inr (12, 0), .inl x] g = some (some (.inl (aGet w x)), g') ∧ Fr sCur g g' := by
  have hcc := m_canCome (d + 2) x g
  rw [hw] at hcc
  unfold aGet
  by_cases h : 0 < w 17 ∧ w 0 ≤ x ∧ x ≤ 9999
  · rw [zb_t h] at hcc
    obtain ⟨g1, a1, a2, a3⟩ := m_begin' hR d g hw hN.1
    have ho : CuOk w (w 0).toNat (w 1) (w 2) := ⟨by have := hN.1; omega, ⟨hN.2.1.1, hN.2.1.2 h.1⟩, hN.2.2.1⟩
    obtain ⟨g2, b1, b2⟩ := m_getsTo hR hL (hP h.1) d x.toNat (w 0).toNat (by omega) (by omega) _ _ _ g1 a2 ho
    rw [show ((x.toNat : Nat) : Int) = x by have := hN.1; omega] at b1
    refine ⟨g2, ?_, a3.tr b2⟩
    rw [en202]
    simp only [e202_0, e202_1, e202_2, e202_5, e202_8, e202_9, e202_10, e202_11, e202_14, e202_15, e202_16, e202_19, hcc, zU_app, zbI_some, zbV_some, Int.reduceToNat, Int.reduceLE, Int.reduceLT, Int.reduceEq, Nat.reduceEqDiff, and_self, and_true, true_and, and_false, false_and, if_true, if_false, ne_eq, not_true_eq_false, not_false_eq_true, reduceCtorEq, a1, b1]
    rw [if_pos h, show (x - w 0).toNat = x.toNat - (w 0).toNat by have := hN.1; omega]
  · rw [zb_f h] at hcc
    refine ⟨g, ?_, Fr.rf⟩
    rw [en202]
    simp only [e202_0, e202_1, e202_2, e202_5, e202_8, e202_9, e202_10, e202_11, e202_14, e202_15, e202_16, e202_19, hcc, zU_app, zbI_some, zbV_some, Int.reduceToNat, Int.reduceLE, Int.reduceLT, Int.reduceEq, Nat.reduceEqDiff, and_self, and_true, true_and, and_false, false_and, if_true, if_false, ne_eq, not_true_eq_false, not_false_eq_true, reduceCtorEq]
    rw [if_neg h]
