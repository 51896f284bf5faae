/-! the model: counting on -/
theorem zU_fn {g : zG} {k j i k' j' : Nat} {x : Int} (h : ¬ (k' = k ∧ j' = j)) : zU g k j i x k' j' = g k' j' := by
  funext i'
  exact zU_ne (fun q => h ⟨q.1, q.2.1⟩)
theorem m_rules' {w : Nat → Int} (h : RuOk w) (d v : Nat) (g : zG) (hw : g 46 0 = w) (h1 : 0 < v) (h2 : v < 10000) : EvM (d + 1) 167 [.inr (12, 0), .inl (v : Int)] g = some (some (.inl (maW w v : Int)), g) := by
  subst hw
  exact m_rulesOf d v g h ⟨h1, h2⟩
theorem m_countL (d v : Nat) (t : Int) (g : zG) (h : RuOk (g 46 0)) : ∀ (m r : Nat), r + m = nR (g 46 0) → Ev (d + 1) 172 5 [some (.inr (12, 0)), some (.inl (maW (g 46 0) v : Int)), some (.inl t), some (.inl (cn (fun r => hoW (g 46 0) v r && (decide (t = -1) || decide (g 46 0 (40 + 4 * r + 2) = t))) r : Int)), some (.inl (r : Int))] [] g = some (some (.inl (ctW (g 46 0) v t : Int)), g) := by
  have hn : ((nR (g 46 0) : Nat) : Int) = g 46 0 18 := by unfold nR; have := h.1; omega
  have hn7 : nR (g 46 0) ≤ 7 := by have := h.2.1; omega
  have hm := maW_lt h v
  intro m
  induction m with
  | zero =>
    intro r hr
    have hr : r = nR (g 46 0) := by omega
    rw [e172_5]
    simp (disch := omega) only [e172_0, e172_1, e172_2, e172_3, e172_7, e172_8, e172_11, e172_13, e172_14, e172_17, e172_18, e172_19, e172_21, e172_22, e172_23, e172_24, e172_25, e172_28, e172_29, e172_30, e172_33, e172_34, e172_36, e172_37, e172_40, e172_41, e172_44, e172_45, e172_48, e172_49, e172_50, e172_51, e172_54, e172_57, e172_58, zwr_id, if_pos, if_neg, Int.reduceToNat]
    rw [hr]
    rfl
  | succ m ih =>
    intro r hr
    have hc := cn_le (fun r => hoW (g 46 0) v r && (decide (t = -1) || decide (g 46 0 (40 + 4 * r + 2) = t))) r
    have next := ih (r + 1) (by omega)
    rw [cn] at next
    have er : (r : Int) + 1 = ((r + 1 : Nat) : Int) := by omega
    have hb : zand (zshr (maW (g 46 0) v : Int) (r : Int)) 1 = if hoW (g 46 0) v r then 1 else 0 := by
      rw [zbit (by omega) (by omega)]
      unfold maW
      rw [mk_bit]
      simp [show r < nR (g 46 0) by omega]
    rw [e172_5]
    simp (disch := omega) only [e172_0, e172_1, e172_2, e172_3, e172_7, e172_8, e172_11, e172_13, e172_14, e172_17, e172_18, e172_19, e172_21, e172_22, e172_23, e172_24, e172_25, e172_28, e172_29, e172_30, e172_33, e172_34, e172_36, e172_37, e172_40, e172_41, e172_44, e172_45, e172_48, e172_49, e172_50, e172_51, e172_54, e172_57, e172_58, zwr_id, if_pos, if_neg, Int.reduceToNat, m_own2, zbI_some, hb, er]
    by_cases ho : hoW (g 46 0) v r = true
    · simp only [ho, if_true, Bool.true_and] at next ⊢
      rw [if_neg (by decide)]
      by_cases ht : t = -1
      · rw [if_pos ht]
        rw [if_pos (by simp [ht])] at next
        exact next
      · rw [if_neg ht]
        by_cases hq : g 46 0 (40 + 4 * r + 2) = t
        · rw [if_neg (fun z => z hq)]
          rw [if_pos (by simp [hq])] at next
          exact next
        · rw [if_pos hq]
          rw [if_neg (by simp [ht, hq])] at next
          exact next
    · simp only [ho, Bool.false_eq_true, if_false, Bool.false_and] at next ⊢
      rw [if_pos (by decide)]
      exact next
theorem m_count' {w : Nat → Int} (h : RuOk w) (d v : Nat) (t : Int) (g : zG) (hw : g 46 0 = w) : EvM (d + 1) 172 [.inr (12, 0), .inl (maW w v : Int), .inl t] g = some (some (.inl (ctW w v t : Int)), g) := by
  subst hw
  rw [en172]
  simp only [e172_0, e172_1, e172_2, e172_3, e172_7, e172_8, e172_11, e172_13, e172_14, e172_17, e172_18, e172_19, e172_21, e172_22, e172_23, e172_24, e172_25, e172_28, e172_29, e172_30, e172_33, e172_34, e172_36, e172_37, e172_40, e172_41, e172_44, e172_45, e172_48, e172_49, e172_50, e172_51, e172_54, e172_57, e172_58]
  exact m_countL d v t g h (nR (g 46 0)) 0 (by omega)
theorem m_runL {w : Nat → Int} (h : RuOk w) (d : Nat) (x : Int) (g : zG) (hw : g 46 0 = w) : ∀ (k n : Nat), k < 10000 → n + k < 20000 → Ev (d + 2) 166 4 [some (.inr (12, 0)), some (.inl x), some (.inl (n : Int)), some (.inl (k : Int))] [] g = some (some (.inl ((n + rnW w k : Nat) : Int)), g) := by
  intro k
  induction k with
  | zero =>
    intro n h1 h2
    rw [e166_4]
    simp (disch := omega) only [e166_0, e166_1, e166_2, e166_3, e166_5, e166_8, e166_9, e166_10, e166_13, e166_16, e166_19, e166_22, e166_25, e166_26, zwr_id, if_pos, if_neg]
    rfl
  | succ k ih =>
    intro n h1 h2
    have next := ih (n + 1) (by omega) (by omega)
    rw [e166_4]
    simp (disch := first | omega | assumption) only [e166_0, e166_1, e166_2, e166_3, e166_5, e166_8, e166_9, e166_10, e166_13, e166_16, e166_19, e166_22, e166_25, e166_26, zwr_id, if_pos, if_neg, m_rules' h, zbI_some]
    rw [rnW]
    by_cases hm : maW w (k + 1) = 0
    · rw [if_pos (by omega), if_pos hm]
      rfl
    · rw [if_neg (by omega), if_neg hm, show ((k + 1 : Nat) : Int) + -1 = (k : Int) by omega, show (n : Int) + 1 = ((n + 1 : Nat) : Int) by omega, next]
      congr 4
      omega
theorem m_runTo' {w : Nat → Int} (h : RuOk w) (d v : Nat) (g : zG) (hw : g 46 0 = w) (hv : v < 10000) : EvM (d + 2) 166 [.inr (12, 0), .inl (v : Int)] g = some (some (.inl (rnW w v : Int)), g) := by
  rw [en166]
  simp only [e166_0, e166_1, e166_2, e166_3, e166_5, e166_8, e166_9, e166_10, e166_13, e166_16, e166_19, e166_22, e166_25, e166_26]
  have := m_runL h d v g hw v 0 hv (by omega)
  rw [Nat.zero_add] at this
  exact this
/-- the model's place in counting: number, seat, way, turned, running -/
def mCu (g : zG) (a b c e f : Int) : zG := zU (zU (zU (zU (zU g 12 0 22 a) 12 0 23 b) 12 0 24 c) 12 0 25 e) 12 0 26 f
theorem mCu_at (g : zG) (a b c e f : Int) : mCu g a b c e f 12 0 22 = a ∧ mCu g a b c e f 12 0 23 = b ∧ mCu g a b c e f 12 0 24 = c ∧ mCu g a b c e f 12 0 25 = e ∧ mCu g a b c e f 12 0 26 = f := ⟨rfl, rfl, rfl, rfl, rfl⟩
theorem mCu_fn {g : zG} {a b c e f : Int} {k j : Nat} (h : ¬ (k = 12 ∧ j = 0)) : mCu g a b c e f k j = g k j := by
  unfold mCu
  rw [zU_fn h, zU_fn h, zU_fn h, zU_fn h, zU_fn h]
theorem mCu_ne {g : zG} {a b c e f : Int} {i : Nat} (h : i < 22 ∨ 26 < i) : mCu g a b c e f 12 0 i = g 12 0 i := by
  unfold mCu
  rw [zU_ne (by omega), zU_ne (by omega), zU_ne (by omega), zU_ne (by omega), zU_ne (by omega)]
/-- any order of writing -/
theorem mCu_of {g g' : zG} {a b c e f : Int} (h1 : g' 12 0 22 = a) (h2 : g' 12 0 23 = b) (h3 : g' 12 0 24 = c) (h4 : g' 12 0 25 = e) (h5 : g' 12 0 26 = f) (h : ∀ k j i, ¬ (k = 12 ∧ j = 0 ∧ 22 ≤ i ∧ i ≤ 26) → g' k j i = g k j i) : g' = mCu g a b c e f := by
  funext k j i
  by_cases hk : k = 12 ∧ j = 0
  · obtain ⟨rfl, rfl⟩ := hk
    by_cases hi : i < 22 ∨ 26 < i
    · rw [mCu_ne hi]
      exact h _ _ _ (by omega)
    · rcases (show i = 22 ∨ i = 23 ∨ i = 24 ∨ i = 25 ∨ i = 26 by omega) with rfl | rfl | rfl | rfl | rfl
      · exact h1
      · exact h2
      · exact h3
      · exact h4
      · exact h5
  · rw [mCu_fn hk]
    exact h _ _ _ (by omega)
theorem mCu_mCu (g : zG) (a b c e f a' b' c' e' f' : Int) : mCu (mCu g a b c e f) a' b' c' e' f' = mCu g a' b' c' e' f' := by
  apply mCu_of <;> try rfl
  intro k j i h
  by_cases hk : k = 12 ∧ j = 0
  · obtain ⟨rfl, rfl⟩ := hk
    rw [mCu_ne (by omega), mCu_ne (by omega)]
  · rw [mCu_fn hk, mCu_fn hk]
theorem m_beginsNow (d : Nat) (g : zG) (h : RuOk (g 46 0)) (v : Nat) (hv : g 46 0 0 = (v : Int)) (hv2 : v < 10000) : EvM (d + 3) 165 [.inr (12, 0)] g = some (none, mCu g v (g 46 0 1) (g 46 0 2) (g 46 0 3) (rnW (g 46 0) v)) := by
  rw [en165]
  simp (disch := first | omega | assumption | (simp (disch := omega) only [zU_fn, mCu_fn]; done) | fail) only [e165_0, e165_1, e165_2, e165_5, e165_6, e165_7, e165_10, e165_11, e165_12, e165_15, e165_16, e165_17, e165_20, e165_21, e165_22, e165_25, e165_26, e165_27, e165_30, e165_31, e165_32, e165_35, e165_36, e165_37, e165_40, e165_41, e165_42, e165_43, e165_46, e165_49, e165_52, zwr_id, if_pos, if_neg, Int.reduceToNat, zU_ne, zU_eq, hv, m_runTo' h, zbI_some]
  rfl
theorem m_beginsAnew (d : Nat) (g : zG) (h : RuOk (g 46 0)) : EvM (d + 3) 213 [.inr (12, 0)] g = some (none, mCu g 1 0 1 0 (rnW (g 46 0) 1)) := by
  have h1 : ∀ d (g' : zG), g' 46 0 = g 46 0 → EvM (d + 2) 166 [.inr (12, 0), .inl 1] g' = some (some (.inl (rnW (g 46 0) 1 : Int)), g') := fun d g' e => m_runTo' h d 1 g' e (by decide)
  rw [en213]
  simp (disch := first | omega | assumption | (simp (disch := omega) only [zU_fn, mCu_fn]; done) | fail) only [e213_0, e213_1, e213_2, e213_5, e213_6, e213_7, e213_10, e213_11, e213_12, e213_15, e213_16, e213_17, e213_20, e213_21, e213_22, e213_23, e213_26, e213_29, zwr_id, if_pos, if_neg, Int.reduceToNat, zU_ne, zU_eq, h1, zbI_some]
  rfl
def tuW (w : Nat → Int) (v : Nat) : Int := ((ctW w v 1 % 2 : Nat) : Int)
def wyW (w : Nat → Int) (v : Nat) (way : Int) : Int := if ctW w v 1 % 2 = 1 then -way else way
def seW (w : Nat → Int) (v : Nat) (seat way : Int) : Int := (seat + wyW w v way * (1 + (ctW w v 2 : Int))) % (w 17)
def nxN (v : Nat) : Nat := if v = 9999 then 1 else v + 1
theorem ctW_le {w : Nat → Int} (h : RuOk w) (v : Nat) (t : Int) : ctW w v t ≤ 7 := by
  have := cn_le (fun r => hoW w v r && (decide (t = -1) || decide (w (40 + 4 * r + 2) = t))) (nR w)
  have h2 : nR w ≤ 7 := by unfold nR; have := h.2.1; omega
  unfold ctW
  omega
theorem q_fm2 {a n : Int} (hn : 0 < n) : Int.tmod (Int.tmod a n + n) n = a % n := by
  have h1 : -n < Int.tmod a n := by
    have := Int.lt_tmod_of_pos a hn
    omega
  rw [Int.tmod_eq_emod_of_nonneg (by omega)]
  have h2 := Int.tmod_add_mul_tdiv a n
  have h3 : a % n = (Int.tmod a n + n) % n := by
    conv => lhs; rw [← h2]
    rw [Int.add_mul_emod_self_left, Int.add_emod_right]
  exact h3.symm
