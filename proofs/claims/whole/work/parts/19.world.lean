/-! THE SMALL MACHINE AND THE MACHINE: the cells that the contents stand for -/
abbrev zW : Type := va_G × (Nat → Nat → Nat) × ClassId × ClassId × ClassId × Value
def zad (Z : zW) : Nat → Nat → Nat := Z.2.1
def zval (Z : zW) : zV → Value
  | .inl x => .int (Int32.ofInt x)
  | .inr q => if q.1 = 63 then Z.2.2.2.2.2 else .ref (zad Z q.1 q.2)
def zE : List (Nat × Nat) := (List.range 57).flatMap fun k => (List.range (zCn.getD k 0)).map fun j => (k, j)
def zfval (Z : zW) (g : zG) (k j s : Nat) : Value := match (zFd.getD k []).getD s (0, 0, 0) with
  | (2, tk, off) => .ref (zad Z tk (if off = 0 then j else off + j))
  | _ => .int (Int32.ofInt (g k j s))
def zobj (Z : zW) (g : zG) (k j : Nat) : List Value := (List.range (zFd.getD k []).length).map (zfval Z g k j)
def zcell (Z : zW) (g : zG) (q : Nat × Nat) : va_E := match zA q.1 with
  | some (0, n) => .inl (Z.2.2.1, n, .inl (fun i => Int32.ofInt (g q.1 q.2 i)))
  | some (1, n) => .inl (Z.2.2.2.1, n, .inl (fun i => Int32.ofInt (g q.1 q.2 i)))
  | some (_, n) => .inl (Z.2.2.2.2.1, n, .inr (.inr (.inr (.inr (fun i => some (zad Z 1 (2 + i)))))))
  | none => .inr (q.1, zobj Z g q.1 q.2)
def zws (Z : zW) (g : zG) : va_W := zE.map fun q => (zad Z q.1 q.2, zcell Z g q)
def zty (Z : zW) : List (ClassId × FieldType) := [(Z.2.2.1, .int), (Z.2.2.2.1, .byte), (Z.2.2.2.2.1, .object RX1)]
def zok : zV → Prop
  | .inl x => zwr x = x
  | .inr q => q.2 < zCn.getD q.1 0
def zlv (Z : zW) (ls : List (Option zV)) : List (Nat × Value) := (List.range ls.length).filterMap fun i => match ls[i]? with
  | some (some v) => some (i, zval Z v)
  | _ => none
/-- what lies outside the cells: the texts, two statics -/
def zEnv (Z : zW) (A : Nat → Prop) (U : State) (H : Heap) : Prop :=
  (∀ j, j < 25 → va_O "java/lang/String" (zad Z 61 j) A U H ∧ va_OF "java/lang/String" "coder" "B" (.int 0) (zad Z 61 j) A U H ∧ va_OF "java/lang/String" "value" "[B" (.ref (zad Z 62 j)) (zad Z 61 j) A U H ∧ va_T .byte (zad Z 62 j) (zTx.getD j []).length (fun i => .int (Int32.ofInt ((zTx.getD j []).getD i 0))) A U H ∧ vk_R (zSr.getD j ("", 0, "")).1 (zSr.getD j ("", 0, "")).2.1 (zSr.getD j ("", 0, "")).2.2 (zad Z 61 j) U) ∧
  va_Z "java/lang/String" "COMPACT_STRINGS" "Z" (.int 1) A U H ∧ va_Z "jdk/internal/util/Preconditions" "SIOOBE_FORMATTER" "Ljava/util/function/BiFunction;" Z.2.2.2.2.2 A U H ∧ Z.2.2.2.2.2.category = 1
/-- the script: its length and its numbers stand in the contents of kind 60 -/
def zScr (Z : zW) (A : Nat → Prop) (G : Nat → Nat → Int) (U : State) (H : Heap) : Prop := ∃ (L : Nat) (xs : Nat → Int32), va_X (zad Z 60 0) L xs U H ∧ G 1 0 = (L : Int) ∧ L < 2 ^ 31 ∧ (∀ i, i < L → xs i = Int32.ofInt (G 0 i)) ∧ ¬ A (zad Z 60 0) ∧ zad Z 60 0 < H.size
/-- the numbers -/
theorem zwr_ofInt (x : Int) : Int32.ofInt (zwr x) = Int32.ofInt x := Int32.ofInt_toInt _
theorem zwr_wr (x : Int) : zwr (zwr x) = zwr x := by unfold zwr; rw [Int32.ofInt_toInt]
theorem zwr_toInt (x : Int32) : zwr x.toInt = x.toInt := by unfold zwr; rw [Int32.ofInt_toInt]
theorem zwr_id {x : Int} (h1 : -2147483648 ≤ x) (h2 : x < 2147483648) : zwr x = x := Int32.toInt_ofInt_of_le (by simpa using h1) (by simpa using h2)
theorem zwr_rng {x : Int} (h : zwr x = x) : -2147483648 ≤ x ∧ x < 2147483648 := by
  have h1 := Int32.le_toInt (Int32.ofInt x)
  have h2 := Int32.toInt_lt (Int32.ofInt x)
  unfold zwr at h
  rw [h] at h1 h2
  exact ⟨by simpa using h1, by simpa using h2⟩
theorem zI_toInt {x : Int} (h : zwr x = x) : (Int32.ofInt x).toInt = x := h
theorem zI_eq {a b : Int} (ha : zwr a = a) (hb : zwr b = b) : Int32.ofInt a = Int32.ofInt b ↔ a = b := ⟨fun h => by rw [← ha, ← hb]; unfold zwr; rw [h], fun h => by rw [h]⟩
theorem zI_lt {a b : Int} (ha : zwr a = a) (hb : zwr b = b) : Int32.ofInt a < Int32.ofInt b ↔ a < b := by rw [Int32.lt_iff_toInt_lt, zI_toInt ha, zI_toInt hb]
theorem zI_le {a b : Int} (ha : zwr a = a) (hb : zwr b = b) : Int32.ofInt a ≤ Int32.ofInt b ↔ a ≤ b := by rw [Int32.le_iff_toInt_le, zI_toInt ha, zI_toInt hb]
theorem zwr_0 : zwr 0 = 0 := by decide
theorem zI_0 : Int32.ofInt 0 = 0 := by decide
theorem zI_nat {x : Int} (h : zwr x = x) (h0 : 0 ≤ x) : (Int32.ofInt x).toNatClampNeg = x.toNat := by
  show (Int32.ofInt x).toInt.toNat = _
  rw [zI_toInt h]
theorem zI_in {x : Int} {n : Nat} (h : zwr x = x) (h0 : 0 ≤ x) (h1 : x < n) : vp_in (Int32.ofInt x) n := vp_in_iff.mpr (by rw [zI_toInt h]; exact ⟨h0, h1⟩)
theorem zI_ge0 {x : Int} (h : zwr x = x) (h0 : 0 ≤ x) : ¬ Int32.ofInt x < 0 := by
  rw [← zI_0, zI_lt h zwr_0]; omega
theorem zI_div {a b : Int} (ha : zwr a = a) (hb : zwr b = b) : Int32.ofInt (zwr (Int.tdiv a b)) = Int32.ofInt a / Int32.ofInt b := by
  rw [zwr_ofInt]
  apply Int32.toInt_inj.mp
  rw [Int32.toInt_div, zI_toInt ha, zI_toInt hb, Int32.toInt_ofInt]
theorem zI_rem {a b : Int} (ha : zwr a = a) (hb : zwr b = b) : Int32.ofInt (Int.tmod a b) = Int32.ofInt a - Int32.ofInt a / Int32.ofInt b * Int32.ofInt b := by
  rw [← zI_div ha hb, zwr_ofInt, ← Int32.ofInt_mul, ← Int32.ofInt_sub]
  congr 1
  have := Int.tmod_add_mul_tdiv a b
  rw [Int.mul_comm] at this
  omega
theorem zrem_ok {a b : Int} (ha : zwr a = a) (hb : b ≠ 0) : zwr (Int.tmod a b) = Int.tmod a b := by
  obtain ⟨h1, h2⟩ := zwr_rng ha
  have h3 : (Int.tmod a b).natAbs ≤ a.natAbs := by
    rw [Int.natAbs_tmod]
    exact Nat.mod_le _ _
  apply zwr_id
  · by_cases h : 0 ≤ a
    · have := Int.tmod_nonneg b h
      omega
    · omega
  · by_cases h : 0 ≤ a
    · omega
    · have : Int.tmod a b ≤ 0 := by
        have q := Int.tmod_nonneg b (show 0 ≤ -a by omega)
        rw [Int.neg_tmod] at q
        omega
      omega
/-- the cells, by their kinds -/
theorem zE_mem {k j : Nat} : (k, j) ∈ zE ↔ k < 57 ∧ j < zCn.getD k 0 := by
  simp only [zE, List.mem_flatMap, List.mem_map, List.mem_range, Prod.mk.injEq]
  constructor
  · rintro ⟨a, h1, b, h2, rfl, rfl⟩; exact ⟨h1, h2⟩
  · rintro ⟨h1, h2⟩; exact ⟨k, h1, j, h2, rfl, rfl⟩
theorem zE_nd : zE.Nodup := by decide +kernel
theorem zE_at {k j : Nat} (h : k < 57) (hj : j < zCn.getD k 0) : ∃ i : Nat, zE[i]? = some (k, j) := List.getElem?_of_mem (zE_mem.mpr ⟨h, hj⟩)
theorem zws_at {Z : zW} {g : zG} {k j i : Nat} (h : zE[i]? = some (k, j)) : (zws Z g)[i]? = some (zad Z k j, zcell Z g (k, j)) := by
  unfold zws
  rw [List.getElem?_map, h]
  rfl
theorem zcell_ne {Z : zW} {g g' : zG} {q : Nat × Nat} (h : ∀ i, g' q.1 q.2 i = g q.1 q.2 i) : zcell Z g' q = zcell Z g q := by
  have e : g' q.1 q.2 = g q.1 q.2 := funext h
  unfold zcell zobj
  have e2 : zfval Z g' q.1 q.2 = zfval Z g q.1 q.2 := by
    funext s
    unfold zfval
    rw [e]
  rw [e, e2]
/-- a write: only one cell is another one -/
theorem zws_set {Z : zW} {g g' : zG} {k j i : Nat} (h : zE[i]? = some (k, j)) (hg : ∀ k' j' s, ¬ (k' = k ∧ j' = j) → g' k' j' s = g k' j' s) : zws Z g' = (zws Z g).set i (zad Z k j, zcell Z g' (k, j)) := by
  apply List.ext_getElem?
  intro n
  by_cases hn : n = i
  · subst hn
    rw [zws_at h, List.getElem?_set_self]
    unfold zws
    rw [List.length_map]
    exact (List.getElem?_eq_some_iff.mp h).1
  · rw [List.getElem?_set_ne (Ne.symm hn)]
    unfold zws
    rw [List.getElem?_map, List.getElem?_map]
    cases hq : zE[n]? with
    | none => rfl
    | some q =>
      have hne : ¬ (q.1 = k ∧ q.2 = j) := by
        rintro ⟨h1, h2⟩
        apply hn
        obtain ⟨l1, e1⟩ := List.getElem?_eq_some_iff.mp hq
        obtain ⟨l2, e2⟩ := List.getElem?_eq_some_iff.mp h
        have e3 : zE[n] = zE[i] := by rw [e1, e2]; exact Prod.ext h1 h2
        exact (List.getElem_inj zE_nd).mp e3
      simp only [Option.map_some]
      rw [zcell_ne (fun s => hg q.1 q.2 s hne)]
theorem zU_other {g : zG} {k j s : Nat} {x : Int} : ∀ k' j' i, ¬ (k' = k ∧ j' = j) → zU g k j s x k' j' i = g k' j' i := by
  intro k' j' i h
  unfold zU
  rw [if_neg (fun q => h ⟨q.1, q.2.1⟩)]
theorem zU_in {g : zG} {k j s : Nat} {x : Int} (i : Nat) : zU g k j s x k j i = if i = s then x else g k j i := by
  unfold zU
  by_cases h : i = s
  · rw [if_pos ⟨rfl, rfl, h⟩, if_pos h]
  · rw [if_neg (fun q => h q.2.2), if_neg h]
theorem zU_ok {g : zG} {k j s : Nat} {x : Int} (h : ∀ k j s, zwr (g k j s) = g k j s) (hx : zwr x = x) : ∀ k' j' s', zwr (zU g k j s x k' j' s') = zU g k j s x k' j' s' := by
  intro k' j' s'
  unfold zU
  split
  · exact hx
  · exact h _ _ _
/-- locals -/
theorem zlv_mem {Z : zW} {ls : List (Option zV)} {i : Nat} {w : Value} : (i, w) ∈ zlv Z ls ↔ ∃ v, ls[i]? = some (some v) ∧ w = zval Z v := by
  unfold zlv
  rw [List.mem_filterMap]
  constructor
  · rintro ⟨n, -, h⟩
    cases hq : ls[n]? with
    | none => rw [hq] at h; cases h
    | some o =>
      cases o with
      | none => rw [hq] at h; cases h
      | some v =>
        rw [hq] at h
        simp only [Option.some.injEq, Prod.mk.injEq] at h
        obtain ⟨rfl, rfl⟩ := h
        exact ⟨v, hq, rfl⟩
  · rintro ⟨v, h, rfl⟩
    exact ⟨i, List.mem_range.mpr (List.getElem?_eq_some_iff.mp h).1, by rw [h]⟩
theorem zlv_at {Z : zW} {ls : List (Option zV)} {lsA : Array Slot} {nL i : Nat} {v : zV} (h : lv_has lsA nL (zlv Z ls)) (hv : ls[i]? = some (some v)) : lsA[i]? = some (.val (zval Z v)) := h.2.2 (i, zval Z v) (zlv_mem.mpr ⟨v, hv, rfl⟩)
theorem zval_cat {Z : zW} (hf : Z.2.2.2.2.2.category = 1) (v : zV) : (zval Z v).category = 1 := by
  rcases v with x | q
  · rfl
  · unfold zval
    dsimp only
    split
    · exact hf
    · rfl
theorem zlv_set {Z : zW} (hf : Z.2.2.2.2.2.category = 1) {ls : List (Option zV)} {lsA : Array Slot} {nL k : Nat} {v : zV} (h : lv_has lsA nL ((k, zval Z v) :: (zlv Z ls).filter (fun q => !(q.1 == k) && !(q.1 + 1 == k && q.2.category == 2)))) : lv_has lsA nL (zlv Z (ls.set k (some v))) := by
  refine ⟨h.1, h.2.1, fun q hq => h.2.2 q ?_⟩
  obtain ⟨i, w⟩ := q
  obtain ⟨u, hu, rfl⟩ := zlv_mem.mp hq
  by_cases hi : i = k
  · subst hi
    have hl : i < ls.length := by
      have := (List.getElem?_eq_some_iff.mp hu).1
      simpa using this
    rw [List.getElem?_set_self hl] at hu
    cases hu
    exact List.mem_cons_self
  · rw [List.getElem?_set_ne (Ne.symm hi)] at hu
    refine List.mem_cons_of_mem _ (List.mem_filter.mpr ⟨zlv_mem.mpr ⟨u, hu, rfl⟩, ?_⟩)
    simp [hi, zval_cat hf u]
/-- what lies outside stays -/
theorem zEnv.to {Z : zW} {A : Nat → Prop} {s U : State} {H0 H : Heap} {locs : List Loc} (h : zEnv Z A s H0) (hS : va_S A H0 H locs) (hW : s.WarmedH U.vm) : zEnv Z A U H := by
  obtain ⟨h1, h2, h3, h4⟩ := h
  have hq : ∀ a : Nat, a < H0.size → ¬ A a → H[a]? = H0[a]? := fun a ha hn => hS.2.1 a ha hn
  refine ⟨fun j hj => ?_, (h2.kept hq).moved hW.alike, (h3.kept hq).moved hW.alike, h4⟩
  obtain ⟨a1, a2, a3, a4, a5⟩ := h1 j hj
  exact ⟨(a1.kept hq).moved hW.alike, (a2.kept hq).moved hW.alike, (a3.kept hq).moved hW.alike, (a4.kept hq).moved hW.alike, a5.warm hW⟩
theorem zEnv.blind {Z : zW} {A : Nat → Prop} {U : State} {g : JFrame} {mk : MethodId} {a : Array Value} {H : Heap} (h : zEnv Z A U H) : zEnv Z A (U.calling g mk a) H := by
  obtain ⟨h1, h2, h3, h4⟩ := h
  have hv : U.vm.Alike (U.calling g mk a).vm := Vm.Alike.refl U.vm
  refine ⟨fun j hj => ?_, h2.moved hv, h3.moved hv, h4⟩
  obtain ⟨a1, a2, a3, a4, a5⟩ := h1 j hj
  exact ⟨a1.moved hv, a2.moved hv, a3.moved hv, a4.moved hv, a5.same rfl⟩
theorem zScr.to {Z : zW} {A : Nat → Prop} {G : Nat → Nat → Int} {s U : State} {H0 H : Heap} {locs : List Loc} (h : zScr Z A G s H0) (hS : va_S A H0 H locs) (hW : s.vm.Alike U.vm) : zScr Z A G U H := by
  obtain ⟨L, xs, h1, h2, h3, h4, h5, h6⟩ := h
  exact ⟨L, xs, (h1.kept (hS.2.1 _ h6 h5)).moved hW, h2, h3, h4, h5, Nat.lt_of_lt_of_le h6 hS.1⟩
/-- the tables -/
theorem zlookup_mem {α : Type} {i : Nat} {a : α} : ∀ {l : List (Nat × α)}, l.lookup i = some a → (i, a) ∈ l
  | [], h => by simp at h
  | (n, b) :: l, h => by
    rw [List.lookup_cons] at h
    by_cases e : i == n
    · rw [e] at h
      simp only [Option.some.injEq] at h
      rw [← h, eq_of_beq e]
      exact List.mem_cons_self
    · simp only [e] at h
      exact List.mem_cons_of_mem _ (zlookup_mem h)
theorem zgetD_map {α β : Type} (f : α → β) (t : List (List α)) (o : Nat) : (t.map (fun r => r.map f)).getD o [] = (t.getD o []).map f := by
  rw [List.getD_eq_getElem?_getD, List.getD_eq_getElem?_getD, List.getElem?_map]
  cases t[o]? <;> rfl
theorem zLf_in {o i c s : Nat} (h : zLk zLf o i = some (c, s)) : Cond.fieldLink (zRs o) i (zTn c s).1 (zTn c s).2.1 (zTn c s).2.2.1 ∈ wsL_law ∧ (c = 61 ∨ (c < 13 ∧ s < (zFd.getD c []).length)) := by
  have h := zlookup_mem h
  rw [zPf_eq, zgetD_map] at h
  obtain ⟨e, he, h⟩ := List.mem_map.mp h
  have hc := List.all_eq_true.mp (zcf_all o) e he
  simp only [Prod.mk.injEq] at h
  obtain ⟨rfl, rfl, rfl⟩ := h
  simp only [zcf, Bool.and_eq_true, decide_eq_true_eq, Bool.or_eq_true, beq_iff_eq] at hc
  exact ⟨List.mem_of_getElem? hc.1, hc.2⟩
theorem zLm_in {o i y : Nat} (h : zLk zLm o i = some y) : Cond.methodLink (zRs o) i (znm y) ∈ wsL_law ∧ (y = 999 ∨ (y < 255 ∧ (znm y).name ≠ "<init>")) := by
  have h := zlookup_mem h
  rw [zPm_eq, zgetD_map] at h
  obtain ⟨e, he, h⟩ := List.mem_map.mp h
  have hc := List.all_eq_true.mp (zcmk_all o) e he
  simp only [Prod.mk.injEq] at h
  obtain ⟨rfl, rfl⟩ := h
  simp only [zcmk, Bool.and_eq_true, decide_eq_true_eq, Bool.or_eq_true, beq_iff_eq] at hc
  exact ⟨List.mem_of_getElem? hc.1, hc.2⟩
theorem zLc_in {o i : Nat} {x : Int} (h : zLk zLc o i = some x) : Cond.constant (zRs o) i (Int32.ofInt x) ∈ wsL_law := by
  have h := zlookup_mem h
  rw [zPc_eq, zgetD_map] at h
  obtain ⟨e, he, h⟩ := List.mem_map.mp h
  have hc := List.all_eq_true.mp (zcc_all o) e he
  simp only [Prod.mk.injEq] at h
  obtain ⟨rfl, rfl⟩ := h
  simp only [zcc, decide_eq_true_eq] at hc
  exact List.mem_of_getElem? hc
theorem zLg_in {o i k : Nat} (h : zLk zLg o i = some k) : Cond.fieldLink (zRs o) i (zSn k).1 (zSn k).2.1 (zSn k).2.2 ∈ wsL_law := by
  have h := zlookup_mem h
  rw [zPg_eq, zgetD_map] at h
  obtain ⟨e, he, h⟩ := List.mem_map.mp h
  have hc := List.all_eq_true.mp (zcg_all o) e he
  simp only [Prod.mk.injEq] at h
  obtain ⟨rfl, rfl⟩ := h
  simp only [zcg, Bool.and_eq_true, decide_eq_true_eq] at hc
  exact List.mem_of_getElem? hc.1
theorem zLs_in {o i j : Nat} (h : zLk zLs o i = some j) : j < 25 ∧ (zSr.getD j ("", 0, "")).1 = zRs o ∧ (zSr.getD j ("", 0, "")).2.1 = i := by
  have h := zlookup_mem h
  obtain ⟨h1, h2⟩ := zLs_ok o (i, j) h
  have e1 := congrArg Prod.fst h2
  have e2 := congrArg (fun q => q.2.1) h2
  exact ⟨h1, e1, e2⟩
/-- a class of the world -/
def zclP (c : Nat) (C : String) (T : u_T) (N : Nat) (ty : Nat → FieldType) : Prop := vwCl[c]? = some (C, T, N) ∧ (vwCl.getD c (RX0, TX0, 5)) = (C, T, N) ∧ (∀ w ∈ u_ws C T N, w ∈ wsL_law) ∧ (∀ k, k < N → parseFieldDescriptor (T k).2.2.1 = some (ty k)) ∧ (∀ a, a < N → ∀ b, b < N → a ≠ b → (T a).2.1 ≠ (T b).2.1) ∧ N = (zFd.getD c []).length ∧ ∀ k, k < N → ((zFd.getD c []).getD k (0, 0, 0)).1 ≤ 2 ∧ (((zFd.getD c []).getD k (0, 0, 0)).1 = 0 → ty k = .int ∧ (T k).2.2.2 = false) ∧ (((zFd.getD c []).getD k (0, 0, 0)).1 = 1 → ty k = .boolean ∧ (T k).2.2.2 = false)
theorem zcls : ∀ c, c < 13 → ∃ C T N ty, zclP c C T N ty := by
  intro c hc
  match c, hc with
  | 0, _ => exact ⟨_, _, _, _, rfl, rfl, inlX0, tyX0_ok, nmX0, rfl, by decide +kernel⟩
  | 1, _ => exact ⟨_, _, _, _, rfl, rfl, inlX1, tyX1_ok, nmX1, rfl, by decide +kernel⟩
  | 2, _ => exact ⟨_, _, _, _, rfl, rfl, inlX2, tyX2_ok, nmX2, rfl, by decide +kernel⟩
  | 3, _ => exact ⟨_, _, _, _, rfl, rfl, inlX3, tyX3_ok, nmX3, rfl, by decide +kernel⟩
  | 4, _ => exact ⟨_, _, _, _, rfl, rfl, inlX4, tyX4_ok, nmX4, rfl, by decide +kernel⟩
  | 5, _ => exact ⟨_, _, _, _, rfl, rfl, inlX5, tyX5_ok, nmX5, rfl, by decide +kernel⟩
  | 6, _ => exact ⟨_, _, _, _, rfl, rfl, inlX6, tyX6_ok, nmX6, rfl, by decide +kernel⟩
  | 7, _ => exact ⟨_, _, _, _, rfl, rfl, inlX7, tyX7_ok, nmX7, rfl, by decide +kernel⟩
  | 8, _ => exact ⟨_, _, _, _, rfl, rfl, inlX8, tyX8_ok, nmX8, rfl, by decide +kernel⟩
  | 9, _ => exact ⟨_, _, _, _, rfl, rfl, inlX9, tyX9_ok, nmX9, rfl, by decide +kernel⟩
  | 10, _ => exact ⟨_, _, _, _, rfl, rfl, inlX10, tyX10_ok, nmX10, rfl, by decide +kernel⟩
  | 11, _ => exact ⟨_, _, _, _, rfl, rfl, inlX11, tyX11_ok, nmX11, rfl, by decide +kernel⟩
  | 12, _ => exact ⟨_, _, _, _, rfl, rfl, inlX12, tyX12_ok, nmX12, rfl, by decide +kernel⟩
theorem zA_obj : ∀ c, c < 13 → zA c = none := by decide +kernel
theorem zA_lt {k e n : Nat} (h : zA k = some (e, n)) : 20 ≤ k ∧ k < 57 ∧ e < 3 ∧ n < 2000 := by
  unfold zA at h
  by_cases hk : 20 ≤ k
  · rw [if_pos hk] at h
    have hl := (List.getElem?_eq_some_iff.mp h).1
    have h2 : ∀ q ∈ zAr, q.1 < 3 ∧ q.2 < 2000 := by decide +kernel
    have h3 := h2 _ (List.mem_of_getElem? h)
    have h4 : zAr.length = 37 := by decide +kernel
    exact ⟨hk, by omega, h3.1, h3.2⟩
  · rw [if_neg hk] at h; cases h
/-- where pointers go -/
theorem zptr : ∀ k, k < 13 → ∀ s, s < (zFd.getD k []).length → ∀ j, j < zCn.getD k 0 → ((zFd.getD k []).getD s (0, 0, 0)).1 = 2 → (if ((zFd.getD k []).getD s (0, 0, 0)).2.2 = 0 then j else ((zFd.getD k []).getD s (0, 0, 0)).2.2 + j) < zCn.getD ((zFd.getD k []).getD s (0, 0, 0)).2.1 0 ∧ ((zFd.getD k []).getD s (0, 0, 0)).2.1 ≠ 63 := by decide +kernel
