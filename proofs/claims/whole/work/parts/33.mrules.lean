/-! what a number has; the model's counting -/
def dg : Nat → Nat → List Nat
  | 0, _ => []
  | k + 1, v => if v = 0 then [] else v % 10 :: dg k (v / 10)
def hasF (v : Nat) (f : Int) : Bool := (dg 4 v).any (fun x => decide ((x : Int) = f))
def hit (so nu : Int) (v : Nat) : Bool := if so = 0 then hasF v nu else decide ((v : Int) % nu = 0)
def mk (P : Nat → Bool) : Nat → Nat
  | 0 => 0
  | n + 1 => mk P n + (if P n then 2 ^ n else 0)
def cn (P : Nat → Bool) : Nat → Nat
  | 0 => 0
  | n + 1 => cn P n + (if P n then 1 else 0)
def hoW (w : Nat → Int) (v r : Nat) : Bool := decide (w (40 + 4 * r + 3) = 1) && hit (w (40 + 4 * r)) (w (40 + 4 * r + 1)) v
def nR (w : Nat → Int) : Nat := (w 18).toNat
def maW (w : Nat → Int) (v : Nat) : Nat := mk (hoW w v) (nR w)
def ctW (w : Nat → Int) (v : Nat) (t : Int) : Nat := cn (fun r => hoW w v r && (decide (t = -1) || decide (w (40 + 4 * r + 2) = t))) (nR w)
def rnW (w : Nat → Int) : Nat → Nat
  | 0 => 0
  | v + 1 => if maW w (v + 1) = 0 then 0 else rnW w v + 1
def RuOk (w : Nat → Int) : Prop := 0 ≤ w 18 ∧ w 18 ≤ 7 ∧ ∀ r, r < nR w → w (40 + 4 * r) ≠ 0 → 0 < w (40 + 4 * r + 1) ∧ w (40 + 4 * r + 1) < 100
theorem mk_lt (P : Nat → Bool) : ∀ n, mk P n < 2 ^ n
  | 0 => by simp [mk]
  | n + 1 => by
    have := mk_lt P n
    rw [mk, Nat.pow_succ]
    split <;> omega
theorem mk_bit (P : Nat → Bool) : ∀ n r, (mk P n).testBit r = (decide (r < n) && P r)
  | 0, r => by simp [mk]
  | n + 1, r => by
    have ih := mk_bit P n r
    have hl := mk_lt P n
    rw [mk]
    by_cases hp : P n
    · rw [if_pos hp, Nat.add_comm]
      by_cases hr : r = n
      · subst hr
        rw [Nat.testBit_two_pow_add_eq, ih]
        simp [hp]
      · rcases Nat.lt_or_ge r n with h | h
        · rw [Nat.testBit_two_pow_add_gt h, ih]
          simp [h, show r < n + 1 by omega]
        · have e1 : (2 ^ n + mk P n).testBit r = false := by
            apply Nat.testBit_lt_two_pow
            have : 2 ^ (n + 1) ≤ 2 ^ r := Nat.pow_le_pow_right (by decide) (by omega)
            rw [Nat.pow_succ] at this
            omega
          rw [e1]
          simp [show ¬ r < n + 1 by omega]
    · rw [if_neg hp, Nat.add_zero, ih]
      by_cases hr : r = n
      · subst hr; simp [hp]
      · by_cases h : r < n
        · simp [h, show r < n + 1 by omega]
        · simp [h, show ¬ r < n + 1 by omega]
theorem mk_zero {P : Nat → Bool} {n : Nat} : mk P n = 0 ↔ ∀ r, r < n → P r = false := by
  constructor
  · intro h r hr
    have := mk_bit P n r
    rw [h] at this
    simp [hr] at this
    exact this
  · intro h
    induction n with
    | zero => rfl
    | succ n ih => rw [mk, ih (fun r hr => h r (by omega)), h n (by omega)]; simp
theorem mk_cong {P Q : Nat → Bool} : ∀ {n : Nat}, (∀ r, r < n → P r = Q r) → mk P n = mk Q n
  | 0, _ => rfl
  | n + 1, h => by rw [mk, mk, mk_cong (fun r hr => h r (by omega)), h n (by omega)]
theorem cn_cong {P Q : Nat → Bool} : ∀ {n : Nat}, (∀ r, r < n → P r = Q r) → cn P n = cn Q n
  | 0, _ => rfl
  | n + 1, h => by rw [cn, cn, cn_cong (fun r hr => h r (by omega)), h n (by omega)]
theorem cn_le (P : Nat → Bool) : ∀ n, cn P n ≤ n
  | 0 => Nat.le_refl _
  | n + 1 => by have := cn_le P n; rw [cn]; split <;> omega
theorem rnW_le (w : Nat → Int) : ∀ v, rnW w v ≤ v
  | 0 => Nat.le_refl _
  | v + 1 => by have := rnW_le w v; rw [rnW]; split <;> omega
theorem maW_lt {w : Nat → Int} (h : RuOk w) (v : Nat) : maW w v < 128 := by
  have h1 := mk_lt (hoW w v) (nR w)
  have h2 : nR w ≤ 7 := by unfold nR; have := h.2.1; omega
  have h3 : 2 ^ nR w ≤ 2 ^ 7 := Nat.pow_le_pow_right (by decide) h2
  unfold maW
  omega
theorem m_hasFig (d : Nat) (f : Int) (g : zG) : ∀ (k v : Nat) (x : Int), v < 10 ^ k → k ≤ 4 → Ev d 169 2 [some (.inl x), some (.inl f), some (.inl (v : Int))] [] g = some (some (.inl (zb ((dg k v).any (fun x => decide ((x : Int) = f)) = true))), g) := by
  intro k
  induction k with
  | zero =>
    intro v x hv _
    have : v = 0 := by omega
    subst this
    rw [e169_2]
    simp [e169_0, e169_1, e169_3, e169_6, e169_7, e169_9, e169_10, e169_11, e169_14, e169_15, e169_16, e169_17, e169_19, e169_20, e169_21, e169_24, e169_25, dg, zb]
  | succ k ih =>
    intro v x hv hk
    have hv4 : v < 10000 := by
      have := Nat.pow_le_pow_right (n := 10) (by decide) hk
      omega
    rw [e169_2]
    simp (disch := omega) only [e169_0, e169_1, e169_3, e169_6, e169_7, e169_9, e169_10, e169_11, e169_14, e169_15, e169_16, e169_17, e169_19, e169_20, e169_21, e169_24, e169_25, zwr_id, if_pos, if_neg]
    by_cases h0 : v = 0
    · subst h0
      simp [dg, zb]
    · rw [if_neg (by omega)]
      have e1 : Int.tmod (v : Int) 10 = ((v % 10 : Nat) : Int) := by rw [Int.tmod_eq_emod_of_nonneg (by omega)]; omega
      have e2 : Int.tdiv (v : Int) 10 = ((v / 10 : Nat) : Int) := by rw [Int.tdiv_eq_ediv_of_nonneg (by omega)]; omega
      rw [e1, e2, zwr_id (by omega) (by omega), ih (v / 10) x (by rw [Nat.pow_succ] at hv; omega) (by omega)]
      rw [dg, if_neg h0, List.any_cons]
      by_cases hf : ((v % 10 : Nat) : Int) = f
      · rw [if_neg (fun q => q hf), decide_eq_true hf, Bool.true_or, zb_t rfl]
        simp
      · rw [if_pos hf, decide_eq_false hf, Bool.false_or]
theorem m_hasFigure (d v : Nat) (f : Int) (g : zG) (h : v < 10000) : EvM d 169 [.inl (v : Int), .inl f] g = some (some (.inl (zb (hasF v f = true))), g) := by
  rw [en169]
  simp only [e169_0, e169_1, e169_3, e169_6, e169_7, e169_9, e169_10, e169_11, e169_14, e169_15, e169_16, e169_17, e169_19, e169_20, e169_21, e169_24, e169_25]
  exact m_hasFig d f g 4 v _ (by omega) (by omega)
theorem m_own0 (d r : Nat) (g : zG) (h : r < 10) : EvM d 168 [.inr (12, 0), .inl (r : Int), .inl 0] g = some (some (.inl (g 46 0 (40 + 4 * r))), g) := m_own d r 0 g ⟨h, by decide⟩
theorem m_own1 (d r : Nat) (g : zG) (h : r < 10) : EvM d 168 [.inr (12, 0), .inl (r : Int), .inl 1] g = some (some (.inl (g 46 0 (40 + 4 * r + 1))), g) := m_own d r 1 g ⟨h, by decide⟩
theorem m_own2 (d r : Nat) (g : zG) (h : r < 10) : EvM d 168 [.inr (12, 0), .inl (r : Int), .inl 2] g = some (some (.inl (g 46 0 (40 + 4 * r + 2))), g) := m_own d r 2 g ⟨h, by decide⟩
theorem m_own3 (d r : Nat) (g : zG) (h : r < 10) : EvM d 168 [.inr (12, 0), .inl (r : Int), .inl 3] g = some (some (.inl (g 46 0 (40 + 4 * r + 3))), g) := m_own d r 3 g ⟨h, by decide⟩
theorem or_pow {a r : Nat} (h : a < 2 ^ r) : a ||| 2 ^ r = a + 2 ^ r := by
  have := Nat.two_pow_add_eq_or_of_lt h 1
  rw [Nat.mul_one] at this
  rw [Nat.or_comm, ← this, Nat.add_comm]
theorem m_rulesL (d v : Nat) (g : zG) (h : RuOk (g 46 0)) (hv : 0 < v ∧ v < 10000) : ∀ (m r : Nat), r + m = nR (g 46 0) → Ev (d + 1) 167 4 [some (.inr (12, 0)), some (.inl (v : Int)), some (.inl (mk (hoW (g 46 0) v) r : Int)), some (.inl (r : Int))] [] g = some (some (.inl (maW (g 46 0) v : Int)), g) := by
  have hn : ((nR (g 46 0) : Nat) : Int) = g 46 0 18 := by unfold nR; have := h.1; omega
  have hn7 : nR (g 46 0) ≤ 7 := by have := h.2.1; omega
  intro m
  induction m with
  | zero =>
    intro r hr
    have hr : r = nR (g 46 0) := by omega
    rw [e167_4]
    simp (disch := omega) only [e167_0, e167_1, e167_2, e167_3, e167_5, e167_6, e167_9, e167_11, e167_12, e167_15, e167_16, e167_17, e167_18, e167_21, e167_22, e167_25, e167_26, e167_27, e167_28, e167_31, e167_34, e167_35, e167_36, e167_37, e167_38, e167_41, e167_44, e167_47, e167_50, e167_51, e167_52, e167_53, e167_54, e167_57, e167_58, e167_61, e167_62, e167_63, e167_64, e167_65, e167_66, e167_67, e167_70, e167_73, e167_74, zwr_id, if_pos, if_neg, Int.reduceToNat]
    rw [hr]
    rfl
  | succ m ih =>
    intro r hr
    have hr7 : r < 7 := by omega
    have hl := mk_lt (hoW (g 46 0) v) r
    have h128 : 2 ^ r ≤ 2 ^ 7 := Nat.pow_le_pow_right (by decide) (by omega)
    have hmk : mk (hoW (g 46 0) v) r < 2147483648 := by omega
    have next : Ev (d + 1) 167 4 [some (.inr (12, 0)), some (.inl (v : Int)), some (.inl (mk (hoW (g 46 0) v) (r + 1) : Int)), some (.inl ((r + 1 : Nat) : Int))] [] g = some (some (.inl (maW (g 46 0) v : Int)), g) := ih (r + 1) (by omega)
    have er : (r : Int) + 1 = ((r + 1 : Nat) : Int) := by omega
    have es : zor (mk (hoW (g 46 0) v) r : Int) (zshl 1 (r : Int)) = ((mk (hoW (g 46 0) v) r + 2 ^ r : Nat) : Int) := by
      rw [zshl1 r (by omega), zor_nat hmk (by omega), or_pow hl]
    rw [e167_4]
    simp (disch := omega) only [e167_0, e167_1, e167_2, e167_3, e167_5, e167_6, e167_9, e167_11, e167_12, e167_15, e167_16, e167_17, e167_18, e167_21, e167_22, e167_25, e167_26, e167_27, e167_28, e167_31, e167_34, e167_35, e167_36, e167_37, e167_38, e167_41, e167_44, e167_47, e167_50, e167_51, e167_52, e167_53, e167_54, e167_57, e167_58, e167_61, e167_62, e167_63, e167_64, e167_65, e167_66, e167_67, e167_70, e167_73, e167_74, zwr_id, if_pos, if_neg, Int.reduceToNat, m_own3, m_own0, m_own1, m_hasFigure, zbI_some, es, er]
    rw [mk] at next
    by_cases hon : g 46 0 (40 + 4 * r + 3) = 1
    · rw [if_neg (by simp [hon])]
      by_cases hso : g 46 0 (40 + 4 * r) = 0
      · rw [if_neg (by simp [hso])]
        by_cases hf : hasF v (g 46 0 (40 + 4 * r + 1)) = true
        · rw [zb_t hf, if_neg (by decide)]
          rw [if_pos (by unfold hoW hit; simp [hon, hso, hf])] at next
          exact next
        · rw [zb_f hf, if_pos rfl]
          rw [if_neg (by unfold hoW hit; simp [hon, hso, hf]), Nat.add_zero] at next
          exact next
      · rw [if_pos hso]
        obtain ⟨p1, p2⟩ := h.2.2 r (by omega) hso
        rw [if_neg (by omega)]
        have e1 : Int.tmod (v : Int) (g 46 0 (40 + 4 * r + 1)) = (v : Int) % (g 46 0 (40 + 4 * r + 1)) := Int.tmod_eq_emod_of_nonneg (by omega)
        rw [e1]
        by_cases hz : (v : Int) % (g 46 0 (40 + 4 * r + 1)) = 0
        · rw [if_neg (by simp [hz])]
          rw [if_pos (by unfold hoW hit; simp [hon, hso, hz])] at next
          exact next
        · rw [if_pos hz]
          rw [if_neg (by unfold hoW hit; simp [hon, hso, hz]), Nat.add_zero] at next
          exact next
    · rw [if_pos hon]
      rw [if_neg (by unfold hoW; simp [hon]), Nat.add_zero] at next
      exact next
theorem m_rulesOf (d v : Nat) (g : zG) (h : RuOk (g 46 0)) (hv : 0 < v ∧ v < 10000) : EvM (d + 1) 167 [.inr (12, 0), .inl (v : Int)] g = some (some (.inl (maW (g 46 0) v : Int)), g) := by
  rw [en167]
  simp only [e167_0, e167_1, e167_2, e167_3, e167_5, e167_6, e167_9, e167_11, e167_12, e167_15, e167_16, e167_17, e167_18, e167_21, e167_22, e167_25, e167_26, e167_27, e167_28, e167_31, e167_34, e167_35, e167_36, e167_37, e167_38, e167_41, e167_44, e167_47, e167_50, e167_51, e167_52, e167_53, e167_54, e167_57, e167_58, e167_61, e167_62, e167_63, e167_64, e167_65, e167_66, e167_67, e167_70, e167_73, e167_74]
  exact m_rulesL d v g h hv (nR (g 46 0)) 0 (by omega)
