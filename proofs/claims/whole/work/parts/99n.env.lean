/-! WHAT LIES OUTSIDE THE CELLS, at the law's entry -/
def yPs : List Nat := [563, 616, 617, 618, 619, 620, 621, 622, 623, 624, 625, 626, 634, 1292, 1299, 1300, 1301, 1302, 1307, 1308, 1309, 1310, 1311, 1312, 1313]
def yPe : List Nat := [9, 16, 25, 33, 43, 54, 69, 84, 101, 117, 137, 154, 173, 199, 220, 240, 262, 285, 309, 337, 365, 395, 424, 457, 487]
abbrev yTm (j : Nat) : Term := .string (zSr.getD j ("", 0, "")).1 (zSr.getD j ("", 0, "")).2.1
abbrev yFl : List Cond := flatC (Jvm.Cond.and given_1 narrow_1)
theorem yr0 : ∀ j, j < 25 → tables_1[yPs.getD j 0]? = some (Cond.stringRef (zSr.getD j ("", 0, "")).1 (zSr.getD j ("", 0, "")).2.1 (zSr.getD j ("", 0, "")).2.2) := by decide +kernel
theorem yr1 : ∀ j, j < 25 → yFl[yPe.getD j 0]? = some (Cond.exactly (yTm j) "java/lang/String") := by decide +kernel
theorem yr2 : ∀ j, j < 25 → yFl[yPe.getD j 0 + 1]? = some (Cond.eq (.field (yTm j) "java/lang/String" "coder" "B") (.int 0)) := by decide +kernel
theorem yr3 : ∀ j, j < 25 → yFl[yPe.getD j 0 + 2]? = some (Cond.arrayOf (.field (yTm j) "java/lang/String" "value" "[B") .byte) := by decide +kernel
theorem yr4 : ∀ j, j < 25 → yFl[yPe.getD j 0 + 3]? = some (Cond.eq (.length (.field (yTm j) "java/lang/String" "value" "[B")) (.int (Int32.ofNat (zTx.getD j []).length))) := by decide +kernel
theorem yr5 : ∀ j, j < 25 → ∀ i, i < (zTx.getD j []).length → yFl[yPe.getD j 0 + 4 + i]? = some (Cond.eq (.elem (.field (yTm j) "java/lang/String" "value" "[B") (.int (Int32.ofNat i))) (.int (Int32.ofInt ((zTx.getD j []).getD i 0)))) := by decide +kernel
theorem yr6 : ∀ j, j < 25 → (zTx.getD j []).length < 2 ^ 31 := by decide +kernel
theorem yr7 : yFl[4]? = some (Cond.eq (.static "java/lang/String" "COMPACT_STRINGS" "Z") (.int 1)) ∧ yFl[5]? = some (Cond.isRef (.static "jdk/internal/util/Preconditions" "SIOOBE_FORMATTER" "Ljava/util/function/BiFunction;")) := by decide +kernel
theorem yr8 : tables_1[577]? = some (Cond.laysStatic "java/lang/String" "COMPACT_STRINGS" "Z") ∧ tables_1[593]? = some (Cond.laysStatic "jdk/internal/util/Preconditions" "SIOOBE_FORMATTER" "Ljava/util/function/BiFunction;") ∧ tables_1[14]? = some (Cond.initialized "java/lang/String") ∧ tables_1[16]? = some (Cond.initialized "jdk/internal/util/Preconditions") ∧ tables_1[230]? = some (Cond.arrayOver (.object RX1)) := by decide +kernel
def yPn : List Nat := [33, 39, 65, 94, 139, 163, 231, 254, 259, 261, 305, 328, 334, 363]
theorem yr9 : ∀ j, j < 14 → tables_1[yPn.getD j 0]? = (yNl[j]?).map (fun w => Cond.methodLinkNest w.1 w.2.1 w.2.2 RX11) := by decide +kernel
theorem yTb {w : Cond} {i : Nat} (h : tables_1[i]? = some w) : w ∈ lw_tbl := List.mem_append_right _ (List.mem_of_getElem? h)
theorem yE_of {args : Array Value} {s : State} (htb : ∀ w ∈ lw_tbl, w.before args s = true) : yE s := by
  refine ⟨fun w hw => ?_, va_AO.of (htb _ (yTb yr8.2.2.2.2))⟩
  obtain ⟨j, hj⟩ := List.getElem?_of_mem hw
  have h14 : j < 14 := (List.getElem?_eq_some_iff.mp hj).1
  have h := yr9 j h14
  rw [hj] at h
  exact va_Nw.of rfl (htb _ (yTb h))
theorem yStr {args : Array Value} {s : State} {A : Nat → Prop} (hgv : (Jvm.Cond.and given_1 narrow_1).before args s = true) (htb : ∀ w ∈ lw_tbl, w.before args s = true) (hA : ∀ a : Nat, a < s.heap.size → ¬ A a) :
    ∃ ad : Nat → Nat × Nat, ∀ j, j < 25 → va_O "java/lang/String" (ad j).1 A s s.heap ∧ va_OF "java/lang/String" "coder" "B" (.int 0) (ad j).1 A s s.heap ∧ va_OF "java/lang/String" "value" "[B" (.ref (ad j).2) (ad j).1 A s s.heap ∧ va_T .byte (ad j).2 (zTx.getD j []).length (fun i => .int (Int32.ofInt ((zTx.getD j []).getD i 0))) A s s.heap ∧ vk_R (zSr.getD j ("", 0, "")).1 (zSr.getD j ("", 0, "")).2.1 (zSr.getD j ("", 0, "")).2.2 (ad j).1 s := by
  have hf := flat_of_before _ hgv
  have h0 : ∀ j : Nat, ∃ q : Nat × Nat, j < 25 → va_O "java/lang/String" q.1 A s s.heap ∧ va_OF "java/lang/String" "coder" "B" (.int 0) q.1 A s s.heap ∧ va_OF "java/lang/String" "value" "[B" (.ref q.2) q.1 A s s.heap ∧ va_T .byte q.2 (zTx.getD j []).length (fun i => .int (Int32.ofInt ((zTx.getD j []).getD i 0))) A s s.heap ∧ vk_R (zSr.getD j ("", 0, "")).1 (zSr.getD j ("", 0, "")).2.1 (zSr.getD j ("", 0, "")).2.2 q.1 s := by
    intro j
    by_cases hj : j < 25
    · obtain ⟨a, c, cA, kA, q1, q2, q3, q4, q5, q6, -⟩ := Cond.exactly_spec (args := args) (first := s) (o := none) (s := s) (idx := []) (t := yTm j) (cls := "java/lang/String") (hf _ (List.mem_of_getElem? (yr1 j hj)))
      obtain ⟨t, ht, hT⟩ := va_Tof (f := fun i => .int (Int32.ofInt ((zTx.getD j []).getD i 0))) (A := A) (yr6 j hj) (hf _ (List.mem_of_getElem? (yr3 j hj))) (va_eqt (hf _ (List.mem_of_getElem? (yr4 j hj)))) (fun i hi => va_eqt (hf _ (List.mem_of_getElem? (yr5 j hj i hi)))) hA
      exact ⟨(a, t), fun _ => ⟨⟨cA, q3, q5, by rw [q6]; exact q2, hA a (Array.getElem?_eq_some_iff.mp q3).1⟩, vk_OFof q1 (va_eqt (hf _ (List.mem_of_getElem? (yr2 j hj)))) hA, vk_OFof q1 ht hA, hT, vk_R.of (htb _ (yTb (yr0 j hj))) q1⟩⟩
    · exact ⟨(0, 0), fun h => absurd h hj⟩
  obtain ⟨ad, had⟩ := Classical.axiomOfChoice h0
  exact ⟨ad, had⟩
theorem yStat {args : Array Value} {s : State} {A : Nat → Prop} (hgv : (Jvm.Cond.and given_1 narrow_1).before args s = true) (htb : ∀ w ∈ lw_tbl, w.before args s = true) (hA : ∀ a : Nat, a < s.heap.size → ¬ A a) :
    va_Z "java/lang/String" "COMPACT_STRINGS" "Z" (.int 1) A s s.heap ∧ ∃ v : Value, va_Z "jdk/internal/util/Preconditions" "SIOOBE_FORMATTER" "Ljava/util/function/BiFunction;" v A s s.heap ∧ v.category = 1 := by
  have hf := flat_of_before _ hgv
  obtain ⟨v, hv, hr⟩ := Cond.isRef_spec (hf _ (List.mem_of_getElem? yr7.2))
  refine ⟨va_Zof (htb _ (yTb yr8.1)) (htb _ (yTb yr8.2.2.1)) (va_eqi (hf _ (List.mem_of_getElem? yr7.1))) hA, v, va_Zof (htb _ (yTb yr8.2.1)) (htb _ (yTb yr8.2.2.2.1)) hv hA, ?_⟩
  cases v <;> first | rfl | (cases hr)
