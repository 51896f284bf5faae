/-! texts: length, charAt, indexOf; Arrays.fill -/
def zt (j : Nat) : List Int := zTx.getD j []
theorem zt_def (j : Nat) : zTx.getD j [] = zt j := rfl
theorem zt_ok {j : Nat} : ∀ v ∈ zt j, 0 ≤ v ∧ v < 128 ∧ zand v 255 = v ∧ zi2c v = v := by
  have ht : ∀ t ∈ zTx, ∀ v ∈ t, 0 ≤ v ∧ v < 128 ∧ zand v 255 = v ∧ zi2c v = v := by decide +kernel
  unfold zt
  rw [List.getD_eq_getElem?_getD]
  cases h : zTx[j]? with
  | none => intro v hv; cases hv
  | some t => exact ht t (List.mem_of_getElem? h)
theorem zt_len (j : Nat) : (zt j).length < 20 := by
  have ht : ∀ t ∈ zTx, t.length < 20 := by decide +kernel
  unfold zt
  rw [List.getD_eq_getElem?_getD]
  cases h : zTx[j]? with
  | none => decide
  | some t => exact ht t (List.mem_of_getElem? h)
theorem j_coder (d j : Nat) (g : zG) : EvM d 65 [.inr (61, j)] g = some (some (.inl 0), g) := by
  rw [en65]
  simp only [e65_0, e65_3, e65_6, e65_7, e65_10, e65_13, e65_14]
  simp
theorem j_isLatin1 (d j : Nat) (g : zG) : EvM d 67 [.inr (61, j)] g = some (some (.inl 1), g) := by
  rw [en67]
  simp only [e67_0, e67_3, e67_6, e67_7, e67_10, e67_13, e67_14, e67_17, e67_18]
  simp
theorem j_length (d j : Nat) (g : zG) : EvM (d + 1) 64 [.inr (61, j)] g = some (some (.inl ((zt j).length : Int)), g) := by
  rw [en64]
  simp only [e64_0, e64_1, e64_4, e64_5, e64_6, e64_9, e64_10, zt_def, j_coder, zbI_some]
  have h := zt_len j
  rw [show (0 : Int) = ((0 : Nat) : Int) from rfl, zshr_nat (by omega) (by decide)]
  simp
theorem j_check (d : Nat) (a b : Int) (j : Nat) (g : zG) (h : 0 ≤ a ∧ a < b) : EvM d 70 [.inl a, .inl b, .inr (63, j)] g = some (some (.inl a), g) := by
  rw [en70]
  simp only [e70_0, e70_1, e70_4, e70_5, e70_6, e70_10, e70_11, e70_16, e70_17]
  rw [if_neg (by omega), if_pos (by omega)]
theorem j_checkS (d : Nat) (a b : Int) (g : zG) (h : 0 ≤ a ∧ a < b) : EvM (d + 1) 69 [.inl a, .inl b] g = some (none, g) := by
  rw [en69]
  simp only [e69_0, e69_1, e69_2, e69_5, e69_8, e69_9, j_check _ _ _ _ _ h, zbI_some]
theorem zt_at {j : Nat} {k : Nat} (h : k < (zt j).length) : 0 ≤ (zt j).getD k 0 ∧ (zt j).getD k 0 < 128 ∧ zand ((zt j).getD k 0) 255 = (zt j).getD k 0 ∧ zi2c ((zt j).getD k 0) = (zt j).getD k 0 := by
  refine zt_ok (j := j) _ ?_
  rw [List.getD_eq_getElem?_getD, List.getElem?_eq_getElem h]
  exact List.getElem_mem h
theorem j_charL (d j : Nat) (a : Int) (g : zG) (h : 0 ≤ a ∧ a < ((zt j).length : Int)) : EvM (d + 2) 68 [.inr (62, j), .inl a] g = some (some (.inl ((zt j).getD a.toNat 0)), g) := by
  obtain ⟨h1, h2, h3, h4⟩ := zt_at (j := j) (k := a.toNat) (by omega)
  rw [en68]
  simp only [e68_0, e68_1, e68_2, e68_3, e68_6, e68_7, e68_8, e68_9, e68_12, e68_13, e68_14, zt_def, j_checkS _ _ _ _ h, zbV_some]
  rw [if_pos h, h3, h4, if_pos (by omega)]
theorem j_charAt (d j : Nat) (a : Int) (g : zG) (h : 0 ≤ a ∧ a < ((zt j).length : Int)) : EvM (d + 3) 66 [.inr (61, j), .inl a] g = some (some (.inl ((zt j).getD a.toNat 0)), g) := by
  obtain ⟨h1, h2, h3, h4⟩ := zt_at (j := j) (k := a.toNat) (by omega)
  rw [en66]
  simp only [e66_0, e66_1, e66_4, e66_7, e66_8, e66_11, e66_12, e66_15, e66_16, e66_17, e66_20, e66_21, e66_24, j_isLatin1, zbI_some, j_charL _ _ _ _ h]
  rw [if_neg (by decide), if_pos (by omega)]
def zix (c : Int) : List Int → Nat → Int
  | [], _ => -1
  | b :: l, k => if b = c then (k : Int) else zix c l (k + 1)
theorem j_ixLoop (d j : Nat) (ch f c : Int) (g : zG) : ∀ (l : List Int) (k : Nat), (zt j).drop k = l → k ≤ (zt j).length → Ev d 83 7 [some (.inr (62, j)), some (.inl ch), some (.inl f), some (.inl ((zt j).length : Int)), some (.inl c), some (.inl (k : Int))] [] g = some (some (.inl (zix c l k)), g) := by
  intro l
  induction l with
  | nil =>
    intro k h hk
    have hl : (zt j).length ≤ k := List.drop_eq_nil_iff.mp h
    rw [e83_7]
    simp only [e83_0, e83_1, e83_2, e83_4, e83_5, e83_9, e83_10, e83_13, e83_14, e83_16, e83_17, e83_19, e83_22, e83_24, e83_25, e83_28, e83_31, e83_32, zt_def]
    rw [if_pos (by omega)]
    rfl
  | cons b l ih =>
    intro k h hk
    have hl : k < (zt j).length := by
      rcases Nat.lt_or_ge k (zt j).length with q | q
      · exact q
      · rw [List.drop_eq_nil_iff.mpr q] at h; cases h
    have hb : (zt j).getD k 0 = b := by
      rw [List.getD_eq_getElem?_getD, ← List.head?_drop, h]
      rfl
    have hd : (zt j).drop (k + 1) = l := by
      rw [← List.tail_drop, h]
      rfl
    have hn := zt_len j
    rw [e83_7]
    simp only [e83_0, e83_1, e83_2, e83_4, e83_5, e83_9, e83_10, e83_13, e83_14, e83_16, e83_17, e83_19, e83_22, e83_24, e83_25, e83_28, e83_31, e83_32, zt_def]
    rw [if_neg (by omega), if_pos (by omega)]
    rw [show ((k : Int)).toNat = k by omega, hb, zwr_c (by omega), show (k : Int) + 1 = ((k + 1 : Nat) : Int) by omega, ih (k + 1) hd (by omega)]
    rw [zix]
    by_cases hc : b = c <;> simp [hc]
theorem j_indexOf (d j : Nat) (c : Int) (g : zG) (h : 0 ≤ c ∧ c < 256) (hj : 0 < (zt j).length) : EvM (d + 3) 77 [.inr (61, j), .inl c] g = some (some (.inl (zix (zi2b c) (zt j) 0)), g) := by
  have hn := zt_len j
  have h1 : ∀ d, EvM d 82 [.inl c] g = some (some (.inl 1), g) := by
    intro d
    rw [en82]
    simp only [e82_0, e82_1, e82_4, e82_5, e82_8, e82_11, e82_12, e82_15, e82_16]
    rw [if_neg (by omega), if_neg (by omega)]
    simp
  have h2 : ∀ d, EvM d 83 [.inr (62, j), .inl c, .inl 0, .inl ((zt j).length : Int)] g = some (some (.inl (zix (zi2b c) (zt j) 0)), g) := by
    intro d
    rw [en83]
    simp only [e83_0, e83_1, e83_2, e83_4, e83_5, e83_9, e83_10, e83_13, e83_14, e83_16, e83_17, e83_19, e83_22, e83_24, e83_25, e83_28, e83_31, e83_32, zt_def]
    exact j_ixLoop d j c 0 (zi2b c) g (zt j) 0 rfl (by omega)
  have h3 : ∀ d, EvM (d + 1) 79 [.inr (62, j), .inl c, .inl 0, .inl ((zt j).length : Int)] g = some (some (.inl (zix (zi2b c) (zt j) 0)), g) := by
    intro d
    rw [en79]
    simp only [e79_0, e79_1, e79_4, e79_7, e79_8, e79_9, e79_10, e79_11, e79_14, e79_15, e79_16, e79_17, e79_18, e79_21, e79_22, e79_23, e79_24, e79_27, e79_28, e79_29, e79_30, e79_31, e79_32, e79_33, e79_36, zt_def, h1, zbI_some, j_max, j_min]
    simp (disch := omega) only [if_pos, if_neg]
    simp only [h2, zbI_some, e79_0, e79_1, e79_4, e79_7, e79_8, e79_9, e79_10, e79_11, e79_14, e79_15, e79_16, e79_17, e79_18, e79_21, e79_22, e79_23, e79_24, e79_27, e79_28, e79_29, e79_30, e79_31, e79_32, e79_33, e79_36, zt_def]
  rw [en77]
  simp only [e77_0, e77_1, e77_2, e77_3, e77_6]
  rw [en78]
  simp only [e78_0, e78_1, e78_4, e78_7, e78_8, e78_11, e78_12, e78_13, e78_14, e78_17, e78_20, e78_23, e78_24, e78_27, e78_28, e78_29, e78_30, e78_33, e78_36, j_isLatin1, zbI_some, j_length, h3, e77_0, e77_1, e77_2, e77_3, e77_6]
  rw [if_neg (by decide)]
  simp only [zbI_some, e77_0, e77_1, e77_2, e77_3, e77_6]
/-- the first i places are v -/
def zfl44 (g : zG) (v : Int) (i : Nat) : zG := fun a b c => if a = 44 ∧ b = 0 ∧ c < i then v else g a b c
theorem j_fillL44 (d : Nat) (v : Int) (g : zG) : ∀ (m i : Nat), i + m = 8 → Ev d 208 5 [some (.inr (44, 0)), some (.inl v), some (.inl (i : Int)), some (.inl 8)] [] (zfl44 g v i) = some (none, zfl44 g v 8) := by
  intro m
  induction m with
  | zero =>
    intro i h
    have : i = 8 := by omega
    subst this
    rw [e208_5_44]
    simp only [e208_0_44, e208_1_44, e208_2_44, e208_3_44, e208_4_44, e208_6_44, e208_7_44, e208_10_44, e208_11_44, e208_12_44, e208_13_44, e208_14_44, e208_17_44, e208_20_44]
    rw [if_pos (by decide)]
  | succ m ih =>
    intro i h
    rw [e208_5_44]
    simp only [e208_0_44, e208_1_44, e208_2_44, e208_3_44, e208_4_44, e208_6_44, e208_7_44, e208_10_44, e208_11_44, e208_12_44, e208_13_44, e208_14_44, e208_17_44, e208_20_44]
    rw [if_neg (by omega), if_pos (by omega), zwr_c (by omega), show (i : Int) + 1 = ((i + 1 : Nat) : Int) by omega]
    have e : zU (zfl44 g v i) 44 0 ((i : Int)).toNat v = zfl44 g v (i + 1) := by
      funext a b c
      unfold zU zfl44
      rw [show ((i : Int)).toNat = i by omega]
      by_cases h1 : a = 44 ∧ b = 0
      · obtain ⟨rfl, rfl⟩ := h1
        by_cases h2 : c = i
        · subst h2; simp
        · by_cases h3 : c < i
          · simp [h2, h3, show c < i + 1 by omega]
          · simp [h2, h3, show ¬ c < i + 1 by omega]
      · rw [if_neg (fun q => h1 ⟨q.1, q.2.1⟩), if_neg (fun q => h1 ⟨q.1, q.2.1⟩), if_neg (fun q => h1 ⟨q.1, q.2.1⟩)]
    rw [e]
    exact ih (i + 1) (by omega)
theorem j_fill44 (d : Nat) (v : Int) (g : zG) : EvM d 208 [.inr (44, 0), .inl v] g = some (none, zfl44 g v 8) := by
  rw [en208_44]
  simp only [e208_0_44, e208_1_44, e208_2_44, e208_3_44, e208_4_44, e208_6_44, e208_7_44, e208_10_44, e208_11_44, e208_12_44, e208_13_44, e208_14_44, e208_17_44, e208_20_44]
  have h := j_fillL44 d v g 8 0 (by decide)
  have e : zfl44 g v 0 = g := by
    funext a b c
    unfold zfl44
    rw [if_neg (by omega)]
  rw [e] at h
  exact h
/-- the first i places are v -/
def zfl45 (g : zG) (v : Int) (i : Nat) : zG := fun a b c => if a = 45 ∧ b = 0 ∧ c < i then v else g a b c
theorem j_fillL45 (d : Nat) (v : Int) (g : zG) : ∀ (m i : Nat), i + m = 29 → Ev d 208 5 [some (.inr (45, 0)), some (.inl v), some (.inl (i : Int)), some (.inl 29)] [] (zfl45 g v i) = some (none, zfl45 g v 29) := by
  intro m
  induction m with
  | zero =>
    intro i h
    have : i = 29 := by omega
    subst this
    rw [e208_5_45]
    simp only [e208_0_45, e208_1_45, e208_2_45, e208_3_45, e208_4_45, e208_6_45, e208_7_45, e208_10_45, e208_11_45, e208_12_45, e208_13_45, e208_14_45, e208_17_45, e208_20_45]
    rw [if_pos (by decide)]
  | succ m ih =>
    intro i h
    rw [e208_5_45]
    simp only [e208_0_45, e208_1_45, e208_2_45, e208_3_45, e208_4_45, e208_6_45, e208_7_45, e208_10_45, e208_11_45, e208_12_45, e208_13_45, e208_14_45, e208_17_45, e208_20_45]
    rw [if_neg (by omega), if_pos (by omega), zwr_c (by omega), show (i : Int) + 1 = ((i + 1 : Nat) : Int) by omega]
    have e : zU (zfl45 g v i) 45 0 ((i : Int)).toNat v = zfl45 g v (i + 1) := by
      funext a b c
      unfold zU zfl45
      rw [show ((i : Int)).toNat = i by omega]
      by_cases h1 : a = 45 ∧ b = 0
      · obtain ⟨rfl, rfl⟩ := h1
        by_cases h2 : c = i
        · subst h2; simp
        · by_cases h3 : c < i
          · simp [h2, h3, show c < i + 1 by omega]
          · simp [h2, h3, show ¬ c < i + 1 by omega]
      · rw [if_neg (fun q => h1 ⟨q.1, q.2.1⟩), if_neg (fun q => h1 ⟨q.1, q.2.1⟩), if_neg (fun q => h1 ⟨q.1, q.2.1⟩)]
    rw [e]
    exact ih (i + 1) (by omega)
theorem j_fill45 (d : Nat) (v : Int) (g : zG) : EvM d 208 [.inr (45, 0), .inl v] g = some (none, zfl45 g v 29) := by
  rw [en208_45]
  simp only [e208_0_45, e208_1_45, e208_2_45, e208_3_45, e208_4_45, e208_6_45, e208_7_45, e208_10_45, e208_11_45, e208_12_45, e208_13_45, e208_14_45, e208_17_45, e208_20_45]
  have h := j_fillL45 d v g 29 0 (by decide)
  have e : zfl45 g v 0 = g := by
    funext a b c
    unfold zfl45
    rw [if_neg (by omega)]
  rw [e] at h
  exact h
