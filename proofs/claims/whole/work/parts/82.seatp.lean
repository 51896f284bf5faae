/-! seating: what the layout says, and the orders one behind another -/
def lyS (w : Nat → Int) : Nat → Int × Int × Int
  | 0 => (0, 1, 0)
  | k + 1 => (seW w (k + 1) (lyS w k).1 (lyS w k).2.1, wyW w (k + 1) (lyS w k).2.1, tuW w (k + 1))
def ciS (w : Nat → Int) (l : List Nat) : Nat → Nat → Int → Int
  | 0, _, c => c
  | m + 1, k, c => ciS w l m (k + 1) (chS c (odW w (l.getD (lyS w k).1.toNat 0) (k + 1) (lyS w k).2.2))
theorem ciS_le (w : Nat → Int) (l : List Nat) : ∀ (m k : Nat) (c : Int), (0 ≤ c ∧ c ≤ 1000000) → 0 ≤ ciS w l m k c ∧ ciS w l m k c ≤ c
  | 0, k, c, h => ⟨h.1, Int.le_refl _⟩
  | m + 1, k, c, h => by
    rw [ciS]
    have h1 := chS_rng h (odW_rng w (l.getD (lyS w k).1.toNat 0) (k + 1) (lyS w k).2.2)
    have := ciS_le w l m (k + 1) _ ⟨h1.1, by omega⟩
    omega
theorem ly_ok {w : Nat → Int} (hP : 0 < w 17) : ∀ (k : Nat), k < 9000 → CuOk w (k + 1) (lyS w k).1 (lyS w k).2.1
  | 0, _ => ⟨by omega, by show (0 : Int) ≤ 0 ∧ (0 : Int) < w 17; omega, Or.inl rfl⟩
  | k + 1, h => by
    have := CuOk.on hP (ly_ok hP k (by omega))
    rw [show nxN (k + 1) = k + 1 + 1 from if_neg (by omega)] at this
    exact this
section SE
variable {w : Nat → Int} {n : Nat} {l : List Nat}
theorem seR_ne {i : Nat} (h : ¬ (28 ≤ i ∧ i < 28 + n)) : seR w n l i = w i := if_neg h
theorem seR_ho (hn : n ≤ 8) (v r : Nat) : hoW (seR w n l) v r = hoW w v r := by
  unfold hoW
  rw [seR_ne (by omega), seR_ne (by omega), seR_ne (by omega)]
theorem seR_nr (hn : n ≤ 8) : nR (seR w n l) = nR w := by unfold nR; rw [seR_ne (by omega)]
theorem seR_ma (hn : n ≤ 8) (v : Nat) : maW (seR w n l) v = maW w v := by
  unfold maW
  rw [seR_nr hn]
  exact mk_cong (fun r _ => seR_ho hn v r)
theorem seR_ct (hn : n ≤ 8) (v : Nat) (t : Int) : ctW (seR w n l) v t = ctW w v t := by
  unfold ctW
  rw [seR_nr hn]
  refine cn_cong (fun r _ => ?_)
  rw [seR_ho hn, seR_ne (by omega)]
theorem seR_rn (hn : n ≤ 8) : ∀ v, rnW (seR w n l) v = rnW w v
  | 0 => rfl
  | v + 1 => by rw [rnW, rnW, seR_ma hn, seR_rn hn v]
theorem seR_tu (hn : n ≤ 8) (v : Nat) : tuW (seR w n l) v = tuW w v := by unfold tuW; rw [seR_ct hn]
theorem seR_wy (hn : n ≤ 8) (v : Nat) (y : Int) : wyW (seR w n l) v y = wyW w v y := by unfold wyW; rw [seR_ct hn]
theorem seR_se (hn : n ≤ 8) (v : Nat) (s y : Int) : seW (seR w n l) v s y = seW w v s y := by unfold seW; rw [seR_ct hn, seR_wy hn, seR_ne (by omega)]
theorem seR_od (hn : n ≤ 8) {ls : List (List (Int × Int) × List (Int × Int))} (hW : LwAt w ls) (p v : Nat) (hp : p < 8) (t : Int) : odW (seR w n l) p v t = odW w p v t := by
  have hW' : LwAt (seR w n l) ls := hW.cg (fun i hi => seR_ne (by omega))
  rw [odW_fl hW, odW_fl hW']
  congr 2
  unfold fcW
  have e1 : seR w n l (20 + p) = w (20 + p) := seR_ne (by omega)
  have e2 : seR w n l (9 + p) = w (9 + p) := seR_ne (by omega)
  have e3 : seR w n l 19 = w 19 := seR_ne (by omega)
  rw [seR_ct hn, seR_rn hn, e1, e2, e3]
theorem seR_who (hw : w 17 = (n : Int)) (hn : 0 < n ∧ n ≤ 8) (h : l.Nodup) (hl : ∀ x, x ∈ l → x < n) (hlen : l.length = n) {s : Int} (h0 : 0 ≤ s) (h1 : s < n) : whoW (seR w n l) s = l.getD s.toNat 0 := by
  have h17 : seR w n l 17 = (n : Int) := by rw [seR_ne (by omega)]; exact hw
  obtain ⟨q1, q2, q3⟩ := whoW_spec (seR_pe hw hn h hl hlen) h0 (by rw [h17]; exact h1)
  rw [h17] at q1
  have q4 : seR w n l (28 + whoW (seR w n l) s) = (l.idxOf (whoW (seR w n l) s) : Int) := by
    unfold seR
    rw [if_pos (by have : whoW (fun i => if 28 ≤ i ∧ i < 28 + n then (l.idxOf (i - 28) : Int) else w i) s = whoW (seR w n l) s := rfl; omega)]
    rw [show 28 + whoW (fun i => if 28 ≤ i ∧ i < 28 + n then (l.idxOf (i - 28) : Int) else w i) s - 28 = whoW (seR w n l) s by have : whoW (fun i => if 28 ≤ i ∧ i < 28 + n then (l.idxOf (i - 28) : Int) else w i) s = whoW (seR w n l) s := rfl; omega]
    rfl
  rw [q3] at q4
  have hm := full h hl hlen (whoW (seR w n l) s) (by omega)
  have hi := List.idxOf_lt_length_of_mem hm
  have he : s.toNat = l.idxOf (whoW (seR w n l) s) := by omega
  rw [he, List.getD_eq_getElem?_getD, List.getElem?_eq_getElem hi]
  exact (List.getElem_idxOf hi).symm
theorem gtK_ci {ls : List (List (Int × Int) × List (Int × Int))} (hW : LwAt w ls) (hw : w 17 = (n : Int)) (hn : 0 < n ∧ n ≤ 8) (h : l.Nodup) (hl : ∀ x, x ∈ l → x < n) (hlen : l.length = n) : ∀ (m k : Nat) (c : Int), k + m < 9000 → gtK (seR w n l) m (k + 1) (lyS w k).1 (lyS w k).2.1 (lyS w k).2.2 c = ciS w l m k c
  | 0, k, c, _ => rfl
  | m + 1, k, c, hk => by
    obtain ⟨-, hs, -⟩ := ly_ok (w := w) (by omega) k (by omega)
    have ew := seR_who hw hn h hl hlen hs.1 (by omega)
    rw [gtK, ciS, seR_se hn.2, seR_wy hn.2, seR_tu hn.2, show nxN (k + 1) = k + 1 + 1 from if_neg (by omega)]
    unfold osW
    have hp : l.getD (lyS w k).1.toNat 0 < 8 := by
      have hi : (lyS w k).1.toNat < l.length := by omega
      rw [List.getD_eq_getElem?_getD, List.getElem?_eq_getElem hi]
      have := hl _ (List.getElem_mem hi)
      show l[(lyS w k).1.toNat] < 8
      omega
    rw [ew, seR_od hn.2 hW _ _ hp]
    exact gtK_ci hW hw hn h hl hlen m (k + 1) _ (by omega)
theorem gtF_ci {ls : List (List (Int × Int) × List (Int × Int))} (hW : LwAt w ls) (hw : w 17 = (n : Int)) (hn : 0 < n ∧ n ≤ 8) (h : l.Nodup) (hl : ∀ x, x ∈ l → x < n) (hlen : l.length = n) (v : Nat) (hv : 1 ≤ v ∧ v ≤ 60) : gtF w n v l = ciS w l v 0 1000000 := by
  unfold gtF
  rw [gtW_gtK, show v - 1 + 1 = v by omega]
  exact gtK_ci hW hw hn h hl hlen v 0 1000000 (by omega)
end SE
theorem ordS_nd (n : Nat) : ∀ (m : Nat) (l o : List Nat), l.Nodup → (∀ x, x ∈ l → x < n) → o ∈ ordS n m l → o.Nodup ∧ ∀ x, x ∈ o → x < n
  | 0, l, o, h1, h2, h => by
    rw [ordS, List.mem_singleton] at h
    rw [h]; exact ⟨h1, h2⟩
  | m + 1, l, o, h1, h2, h => by
    rw [ordS, List.mem_flatMap] at h
    obtain ⟨p, hp0, hp⟩ := h
    by_cases q : p ∈ l
    · rw [if_pos q] at hp; cases hp
    · rw [if_neg q] at hp
      have hpn : p < n := by
        rw [List.mem_range'] at hp0
        omega
      refine ordS_nd n m _ o ?_ ?_ hp
      · rw [List.nodup_append]
        refine ⟨h1, by simp, fun a ha b hb => ?_⟩
        rw [List.mem_singleton] at hb
        rw [hb]
        intro e
        rw [e] at ha
        exact q ha
      · intro x hx
        rw [List.mem_append, List.mem_singleton] at hx
        rcases hx with hx | hx
        · exact h2 x hx
        · rw [hx]; exact hpn
/-! the next order -/
def loS (l : List Nat) : Nat → Nat
  | 0 => 0
  | k + 1 => if l.getD (k + 1) 0 < l.getD k 0 then loS l k else k + 1
def hiS (l : List Nat) (lo : Nat) : Nat → Nat
  | 0 => 0
  | h + 1 => if lo < h + 1 ∧ l.getD (h + 1) 0 < l.getD lo 0 then hiS l lo h else h + 1
def exL (l : List Nat) (a b : Nat) : List Nat := (l.set a (l.getD b 0)).set b (l.getD a 0)
def rvS : Nat → List Nat → Nat → Nat → List Nat
  | 0, l, _, _ => l
  | m + 1, l, a, b => if a < b then rvS m (exL l a b) (a + 1) (b - 1) else l
def nxL (n : Nat) (l : List Nat) : Option (List Nat) := match loS l (n - 1) with
  | 0 => none
  | k + 1 => some (rvS 6 (exL l k (hiS l k (n - 1))) (k + 1) (n - 1))
def chB (n : Nat) : List (List Nat) → Bool
  | [] => true
  | [a] => decide (nxL n a = none)
  | a :: b :: r => decide (nxL n a = some b) && chB n (b :: r)
theorem ord_ok : ∀ n, n < 7 → 2 ≤ n → chB n (ordS n n []) = true ∧ (ordS n n []).head? = some (List.range n) ∧ (ordS n n []).length ≤ 720 := by decide +kernel
