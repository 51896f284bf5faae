/-! the JDK's own small methods -/
theorem zwr_c {x : Int} (h : -2147483648 ≤ x ∧ x < 2147483648) : zwr x = x := zwr_id h.1 h.2
theorem j_max (d : Nat) (a b : Int) (g : zG) : EvM d 80 [.inl a, .inl b] g = some (some (.inl (if a < b then b else a)), g) := by
  rw [en80]
  simp only [e80_0, e80_1, e80_2, e80_5, e80_6, e80_9, e80_10]
  by_cases h : a < b <;> simp [h]
theorem j_min (d : Nat) (a b : Int) (g : zG) : EvM d 81 [.inl a, .inl b] g = some (some (.inl (if b < a then b else a)), g) := by
  rw [en81]
  simp only [e81_0, e81_1, e81_2, e81_5, e81_6, e81_9, e81_10]
  by_cases h : b < a <;> simp [h]
theorem zxor_sign {a b : Int} (ha : zwr a = a) (hb : zwr b = b) : 0 ≤ zxor a b ↔ (0 ≤ a ↔ 0 ≤ b) := by
  have key : ∀ u v : Int32, 0 ≤ (u ^^^ v).toInt ↔ (0 ≤ u.toInt ↔ 0 ≤ v.toInt) := by
    intro u v
    have h1 : ∀ w : Int32, 0 ≤ w.toInt ↔ w.toBitVec.msb = false := by
      intro w
      show 0 ≤ w.toBitVec.toInt ↔ _
      rw [BitVec.msb_eq_toInt]
      simp
    rw [h1, h1, h1]
    have h2 : (u ^^^ v).toBitVec = u.toBitVec ^^^ v.toBitVec := rfl
    rw [h2, BitVec.msb_xor]
    cases u.toBitVec.msb <;> cases v.toBitVec.msb <;> simp
  have h := key (Int32.ofInt a) (Int32.ofInt b)
  rw [zI_toInt ha, zI_toInt hb] at h
  exact h
/-- floorMod with a positive divisor -/
theorem j_floorMod (d : Nat) {a b : Int} (g : zG) (ha : zwr a = a) (hb : 0 < b ∧ b < 2147483648) : EvM d 151 [.inl a, .inl b] g = some (some (.inl (a % b)), g) := by
  have hb' : zwr b = b := zwr_c (by omega)
  have hs := zxor_sign ha hb'
  have h0 : ¬ b = 0 := by omega
  rw [en151]
  simp only [e151_0, e151_1, e151_2, e151_3, e151_4, e151_5, e151_6, e151_7, e151_10, e151_11, e151_14, e151_15, e151_16, e151_17, e151_18, e151_19, if_neg h0]
  have ht : Int.tmod a b = a % b ∨ (a < 0 ∧ ¬ Int.tmod a b = 0 ∧ Int.tmod a b + b = a % b) ∨ (a < 0 ∧ Int.tmod a b = 0 ∧ a % b = 0) := by
    by_cases hq : 0 ≤ a
    · left; exact Int.tmod_eq_emod_of_nonneg hq
    · right
      have e : Int.tmod a b = - ((-a) % b) := by
        have := Int.neg_tmod a b
        rw [Int.tmod_eq_emod_of_nonneg (by omega : 0 ≤ -a)] at this
        omega
      have r1 := Int.emod_nonneg (-a) h0
      have r2 := Int.emod_lt_of_pos (-a) hb.1
      have r3 := Int.emod_nonneg a h0
      have r4 := Int.emod_lt_of_pos a hb.1
      have q1 := Int.emod_add_mul_ediv (-a) b
      have q2 := Int.emod_add_mul_ediv a b
      have hsum : ((-a) % b + a % b) % b = 0 := by
        have hz : (-a + a) % b = 0 := by rw [Int.add_left_neg]; exact Int.zero_emod b
        rw [Int.add_emod] at hz
        exact hz
      have hlt : (-a) % b + a % b < 2 * b := by omega
      have h3 : (-a) % b + a % b = 0 ∨ (-a) % b + a % b = b := by
        by_cases hc : (-a) % b + a % b < b
        · rw [Int.emod_eq_of_lt (by omega) hc] at hsum
          exact Or.inl hsum
        · have : ((-a) % b + a % b - b) % b = 0 := by
            rw [Int.sub_emod, hsum]; simp
          rw [Int.emod_eq_of_lt (by omega) (by omega)] at this
          exact Or.inr (by omega)
      rcases h3 with h3 | h3
      · right
        exact ⟨by omega, by omega, by omega⟩
      · by_cases hz : (-a) % b = 0
        · omega
        · left
          exact ⟨by omega, by omega, by omega⟩
  have r3 := Int.emod_nonneg a h0
  have r4 := Int.emod_lt_of_pos a hb.1
  by_cases hx : 0 ≤ zxor a b
  · have hpa : 0 ≤ a := by
      have := hs.mp hx
      omega
    rw [if_pos hx]
    rw [Int.tmod_eq_emod_of_nonneg hpa]
  · have hna : a < 0 := by
      rcases Int.lt_or_le a 0 with h | h
      · exact h
      · exact absurd (hs.mpr ⟨fun _ => by omega, fun _ => h⟩) hx
    rw [if_neg hx]
    rcases ht with ht | ⟨-, h2, h3⟩ | ⟨-, h2, h3⟩
    · by_cases hz : Int.tmod a b = 0
      · rw [if_pos hz, ht]
      · -- then both signs agree with a negative remainder: impossible unless equal
        exfalso
        have : Int.tmod a b ≤ 0 := by
          have q := Int.tmod_nonneg b (show 0 ≤ -a by omega)
          rw [Int.neg_tmod] at q
          omega
        omega
    · rw [if_neg h2, h3, zwr_c (by omega)]
    · rw [if_pos h2, h2, h3]
/-- bits of small numbers -/
theorem zN {n : Nat} (h : n < 2147483648) : zwr (n : Int) = n := zwr_c (by omega)
theorem zI_nI (n : Nat) : Int32.ofInt (n : Int) = nI n := Int32.ofInt_eq_ofNat
theorem z_nI_toInt {n : Nat} (h : n < 2147483648) : (nI n).toInt = (n : Int) := nI_toInt (by omega)
theorem zand_nat {a b : Nat} (ha : a < 2147483648) (hb : b < 2147483648) : zand (a : Int) (b : Int) = ((a &&& b : Nat) : Int) := by
  unfold zand
  rw [zI_nI, zI_nI]
  have e : nI a &&& nI b = nI (a &&& b) := by
    apply Int32.toBitVec_inj.mp
    show BitVec.ofNat 32 a &&& BitVec.ofNat 32 b = BitVec.ofNat 32 (a &&& b)
    rw [BitVec.ofNat_and]
  rw [e, z_nI_toInt]
  exact Nat.lt_of_le_of_lt Nat.and_le_left ha
theorem zor_nat {a b : Nat} (ha : a < 2147483648) (hb : b < 2147483648) : zor (a : Int) (b : Int) = ((a ||| b : Nat) : Int) := by
  unfold zor
  rw [zI_nI, zI_nI]
  have e : nI a ||| nI b = nI (a ||| b) := by
    apply Int32.toBitVec_inj.mp
    show BitVec.ofNat 32 a ||| BitVec.ofNat 32 b = BitVec.ofNat 32 (a ||| b)
    rw [BitVec.ofNat_or]
  rw [e, z_nI_toInt]
  exact Nat.or_lt_two_pow (n := 31) ha hb
theorem zshl1 : ∀ r : Nat, r < 31 → zshl 1 (r : Int) = ((2 ^ r : Nat) : Int) := by decide +kernel
theorem zshr_nat {a r : Nat} (ha : a < 2147483648) (hr : r < 31) : zshr (a : Int) (r : Int) = ((a / 2 ^ r : Nat) : Int) := by
  unfold zshr
  rw [zI_nI, zI_nI]
  have hs : ∀ r : Nat, r < 31 → ((nI r &&& 31).toBitVec.smod 32).toNat = r := by decide +kernel
  rw [pk_shrN (by omega) _ r (hs r hr), z_nI_toInt]
  exact Nat.lt_of_le_of_lt (Nat.div_le_self _ _) ha
theorem zand1 {a : Nat} (ha : a < 2147483648) : zand (a : Int) 1 = ((a % 2 : Nat) : Int) := by
  have := zand_nat ha (show 1 < 2147483648 by decide)
  rw [Nat.and_one_is_mod] at this
  exact this
/-- is the bit there -/
theorem zbit {a r : Nat} (ha : a < 2147483648) (hr : r < 31) : zand (zshr (a : Int) (r : Int)) 1 = if a.testBit r then 1 else 0 := by
  rw [zshr_nat ha hr, zand1 (Nat.lt_of_le_of_lt (Nat.div_le_self _ _) ha)]
  rw [Nat.testBit_eq_decide_div_mod_eq]
  by_cases h : a / 2 ^ r % 2 = 1
  · simp [h]
  · have : a / 2 ^ r % 2 = 0 := by omega
    simp [this]
theorem zxor_m1 {a : Nat} (r : Nat) (hr : r < 31) (ha : a < 2147483648) : zand (a : Int) (zxor ((2 ^ r : Nat) : Int) (-1)) = ((a &&& (2147483647 - 2 ^ r) : Nat) : Int) := by
  have key : ∀ r : Nat, r < 31 → zxor ((2 ^ r : Nat) : Int) (-1) = -((2 ^ r : Nat) : Int) - 1 := by decide +kernel
  have k2 : ∀ r : Nat, r < 31 → Int32.ofInt (-((2 ^ r : Nat) : Int) - 1) = (Int32.ofInt ((2147483647 - 2 ^ r : Nat) : Int)) ||| Int32.ofInt (-2147483648) := by decide +kernel
  rw [key r hr]
  unfold zand
  rw [k2 r hr, zI_nI, zI_nI]
  have e : nI a &&& (nI (2147483647 - 2 ^ r) ||| Int32.ofInt (-2147483648)) = nI (a &&& (2147483647 - 2 ^ r)) := by
    apply Int32.toBitVec_inj.mp
    show BitVec.ofNat 32 a &&& (BitVec.ofNat 32 (2147483647 - 2 ^ r) ||| BitVec.ofNat 32 2147483648) = BitVec.ofNat 32 (a &&& (2147483647 - 2 ^ r))
    rw [← BitVec.ofNat_or, ← BitVec.ofNat_and]
    congr 1
    apply Nat.eq_of_testBit_eq
    intro i
    rw [Nat.testBit_and, Nat.testBit_and, Nat.testBit_or]
    by_cases hi : i = 31
    · subst hi
      have : a.testBit 31 = false := Nat.testBit_lt_two_pow ha
      rw [this]; simp
    · have h2 : (2147483648 : Nat).testBit i = false := by
        rw [show (2147483648 : Nat) = 2 ^ 31 from rfl, Nat.testBit_two_pow]
        simp [Ne.symm hi]
      rw [h2]; simp
  rw [e, z_nI_toInt]
  exact Nat.lt_of_le_of_lt Nat.and_le_left ha
/-- how many bits a small number has -/
def zpc (n : Nat) : Nat := n % 2 + n / 2 % 2 + n / 4 % 2 + n / 8 % 2 + n / 16 % 2 + n / 32 % 2 + n / 64 % 2
theorem j_bitCount (d n : Nat) (g : zG) (h : n < 128) : EvM d 141 [.inl (n : Int)] g = some (some (.inl (zpc n : Int)), g) := by
  rw [en141]
  simp only [e141_0, e141_1, e141_2, e141_3, e141_4, e141_7, e141_8, e141_9, e141_10, e141_11, e141_14, e141_15, e141_16, e141_17, e141_18, e141_21, e141_22, e141_23, e141_24, e141_25, e141_26, e141_27, e141_28, e141_29, e141_32, e141_33, e141_34, e141_35, e141_36, e141_38, e141_39, e141_40, e141_41, e141_42, e141_43, e141_45, e141_46, e141_47, e141_48, e141_49, e141_51, e141_52]
  congr 4
  revert n
  decide +kernel
