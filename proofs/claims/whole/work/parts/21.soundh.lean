/-! THE SMALL MACHINE IS THE MACHINE: fields, arrays, texts -/
theorem zfval_ref {Z : zW} {g : zG} {k j s tk off : Nat} (h : (zFd.getD k []).getD s (0, 0, 0) = (2, tk, off)) : zfval Z g k j s = .ref (zad Z tk (if off = 0 then j else off + j)) := by unfold zfval; rw [h]; rfl
theorem zfval_int {Z : zW} {g : zG} {k j s : Nat} (h : ((zFd.getD k []).getD s (0, 0, 0)).1 ≠ 2) : zfval Z g k j s = .int (Int32.ofInt (g k j s)) := by
  unfold zfval
  split
  · rename_i he; rw [he] at h; exact absurd rfl h
  · rfl
theorem zobj_at {Z : zW} {g : zG} {k j s : Nat} (h : s < (zFd.getD k []).length) : (zobj Z g k j)[s]? = some (zfval Z g k j s) := by
  unfold zobj
  rw [List.getElem?_map, List.getElem?_range h]
  rfl
theorem zobj_len {Z : zW} {g : zG} {k j : Nat} : (zobj Z g k j).length = (zFd.getD k []).length := by unfold zobj; simp
theorem zobj_set {Z : zW} {g : zG} {k j s : Nat} {x : Int} (hs : s < (zFd.getD k []).length) (hne : ((zFd.getD k []).getD s (0, 0, 0)).1 ≠ 2) : (zobj Z g k j).set s (.int (Int32.ofInt x)) = zobj Z (zU g k j s x) k j := by
  apply List.ext_getElem?
  intro n
  by_cases hn : n = s
  · subst hn
    rw [List.getElem?_set_self (by rw [zobj_len]; exact hs), zobj_at hs, zfval_int hne, zU_in, if_pos rfl]
  · rw [List.getElem?_set_ne (Ne.symm hn)]
    by_cases hl : n < (zFd.getD k []).length
    · rw [zobj_at hl, zobj_at hl]
      congr 1
      unfold zfval
      rw [zU_in, if_neg hn]
    · rw [List.getElem?_eq_none (by rw [zobj_len]; omega), List.getElem?_eq_none (by rw [zobj_len]; omega)]
theorem zF_obj {c s : Nat} (hc : c < 13) (hs : s < (zFd.getD c []).length) : zF c s = some ((zFd.getD c []).getD s (0, 0, 0)) := by
  unfold zF
  rw [if_neg (by omega)]
  generalize zFd.getD c [] = l at hs ⊢
  simp [hs]
theorem zcell_obj {Z : zW} {g : zG} {k j : Nat} (hk : k < 13) : zcell Z g (k, j) = .inr (k, zobj Z g k j) := by
  unfold zcell
  rw [zA_obj k hk]
theorem zcell_0 {Z : zW} {g : zG} {k j n : Nat} (h : zA k = some (0, n)) : zcell Z g (k, j) = .inl (Z.2.2.1, n, .inl (fun i => Int32.ofInt (g k j i))) := by
  unfold zcell
  rw [h]
  rfl
theorem zcell_1 {Z : zW} {g : zG} {k j n : Nat} (h : zA k = some (1, n)) : zcell Z g (k, j) = .inl (Z.2.2.2.1, n, .inl (fun i => Int32.ofInt (g k j i))) := by
  unfold zcell
  rw [h]
  rfl
theorem zcell_2 {Z : zW} {g : zG} {k j n : Nat} (h : zA k = some (2, n)) : zcell Z g (k, j) = .inl (Z.2.2.2.2.1, n, .inr (.inr (.inr (.inr (fun i => some (zad Z 1 (2 + i))))))) := by
  unfold zcell
  rw [h]
  rfl
theorem zA_2 {k n : Nat} (h : zA k = some (2, n)) : n = 10 := by
  unfold zA at h
  obtain ⟨-, h⟩ := zif h
  have h2 : ∀ q ∈ zAr, q.1 = 2 → q.2 = 10 := by decide +kernel
  exact h2 _ (List.mem_of_getElem? h) rfl
theorem zvalR {Z : zW} {k j : Nat} (h : k ≠ 63) : zval Z (.inr (k, j)) = .ref (zad Z k j) := by unfold zval; dsimp only; rw [if_neg h]
theorem zTn_obj {c s : Nat} {C : String} {T : u_T} {N : Nat} (hc : c < 13) (h : vwCl.getD c (RX0, TX0, 5) = (C, T, N)) : zTn c s = T s := by
  unfold zTn
  rw [if_neg (by omega), h]
section SH
variable {y pc p2 k n i : Nat} {ls ls' : List (Option zV)} {st st' : List zV} {g g' : zG} {q : zQ4} {x a b o : Int}
theorem zT_getf (hd : decode (zBy y) pc = .ok (.getfield i, 3)) (hv : zVd ls st g) (hs : zgetf y pc i ls st g = some (.inr (.inl q))) : zT y pc ls st g q := by
  unfold zgetf at hs
  split at hs
  · rename_i k j r
    split at hs
    · rename_i c s hl
      obtain ⟨hkc, hs⟩ := zif hs
      subst hkc
      obtain ⟨hin, hcl⟩ := zLf_in hl
      have h1 := List.forall_mem_cons.mp hv.2.1
      have hj : j < zCn.getD k 0 := h1.1
      rcases hcl with h61 | ⟨hc, hsl⟩
      · subst h61
        have hj25 : j < 25 := hj
        have e0 : zF 61 s = if s = 0 then some (2, 62, 0) else some (3, 0, 0) := rfl
        by_cases hs0 : s = 0
        · subst hs0
          rw [e0, if_pos rfl] at hs
          rw [znx_inj hs]
          refine zT.pure hv (List.forall_mem_cons.mpr ⟨hj25, h1.2⟩) (fun {Z} _ _ _ _ _ _ _ _ _ _ _ _ _ _ _ _ _ hC hH kk => ?_)
          rw [List.map_cons, zvalR (by decide)]
          rw [List.map_cons, if_pos rfl, zvalR (by decide)] at kk
          exact vk_getf hC.1 hC.2.1 (hC.2.2.2.2.2.2.1.1 j hj25).2.2.1 hH.2.2.2 hC.2.2.2.1 (hC.2.2.2.2.1 _ hin) (fun _ h => h) hd kk
        · rw [e0, if_neg hs0] at hs
          rw [znx_inj hs]
          have et : zTn 61 s = ("java/lang/String", "coder", "B", false) := by unfold zTn; rw [if_pos rfl, if_neg hs0]
          rw [et] at hin
          refine zT.pure hv (List.forall_mem_cons.mpr ⟨zwr_0, h1.2⟩) (fun {Z} _ _ _ _ _ _ _ _ _ _ _ _ _ _ _ _ _ hC hH kk => ?_)
          rw [List.map_cons, zvalR (by decide)]
          exact vk_getf hC.1 hC.2.1 (hC.2.2.2.2.2.2.1.1 j hj25).2.1 hH.2.2.2 hC.2.2.2.1 (hC.2.2.2.2.1 _ hin) (fun _ h => h) hd kk
      · obtain ⟨C, T, N, ty, c1, c2, c3, c4, c5, c6, c7⟩ := zcls k hc
        have hsN : s < N := by rw [c6]; exact hsl
        rw [zTn_obj hc c2] at hin
        obtain ⟨i0, hi0⟩ := zE_at (k := k) (j := j) (by omega) hj
        have row : ∀ {Z : zW} {A : Nat → Prop} {p : Program} {l : Launch} {e : Env} {R : Room} {s' : State} {m : MethodId} {args : Array Value} {below : List Frame} {meth : Method} {c : Code} {cells slots : Nat} {Q : State → Prop} {H : Heap} {locs : List Loc} {lsA : Array Slot} {rest : List Value},
            zC Z A p s' m args c y (g 60) → zH Z A s' y ls g H locs lsA → W p l e R s' m args below meth c H locs cells slots Q (F0 m (pc + 3) lsA (zfval Z g k j s :: rest)) → W p l e R s' m args below meth c H locs cells slots Q (F0 m pc lsA (.ref (zad Z k j) :: rest)) := by
          intro Z A p l e R s' m args below meth c cells slots Q H locs lsA rest hC hH kk
          have he := zws_at (Z := Z) (g := g) hi0
          rw [zcell_obj hc] at he
          exact va_get hC.1 hC.2.1 hC.2.2.2.2.1 c3 hC.2.2.2.1 hC.2.2.2.2.2.1 hH.2.1 i0 he c1 s hsN (hC.2.2.2.2.1 _ hin) (fun _ h => h) (zobj_at hsl) hd kk
        rw [zF_obj hc hsl] at hs
        have hle := (c7 s hsN).1
        split at hs
        · rename_i tk off hf
          have hf := Option.some.inj hf
          obtain ⟨p1, p2⟩ := zptr k hc s hsl j hj (by rw [hf])
          rw [hf] at p1 p2
          rw [znx_inj hs]
          refine zT.pure hv (List.forall_mem_cons.mpr ⟨p1, h1.2⟩) (fun {Z} _ _ _ _ _ _ _ _ _ _ _ _ _ _ _ _ _ hC hH kk => ?_)
          rw [List.map_cons, zvalR (by omega)]
          rw [List.map_cons, zvalR p2, ← zfval_ref hf] at kk
          exact row hC hH kk
        · rename_i hf
          have hf := Option.some.inj hf
          rw [hf] at hle
          exact absurd hle (by show ¬ (3 : Nat) ≤ 2; decide)
        · rename_i f hne1 hne2 hf
          have hf := Option.some.inj hf
          rw [znx_inj hs]
          have h2 : ((zFd.getD k []).getD s (0, 0, 0)).1 ≠ 2 := by
            intro hq
            obtain ⟨f1, f2, f3⟩ := f
            rw [hf] at hq
            dsimp only at hq
            subst hq
            exact hne1 f2 f3 rfl
          refine zT.pure hv (List.forall_mem_cons.mpr ⟨hv.2.2 _ _ _, h1.2⟩) (fun {Z} _ _ _ _ _ _ _ _ _ _ _ _ _ _ _ _ _ hC hH kk => ?_)
          rw [List.map_cons, zvalR (by omega)]
          rw [List.map_cons] at kk
          exact row hC hH (by rw [zfval_int h2]; exact kk)
        · cases hs
    · cases hs
  · cases hs
theorem zput_row (hd : decode (zBy y) pc = .ok (.putfield i, 3)) {k j s : Nat} {r : List zV} (hv : zVd ls (.inl x :: .inr (k, j) :: r) g) (hl : zLk zLf (zOw y) i = some (k, s)) (hc : k < 13) (hsl : s < (zFd.getD k []).length) (h01 : ((zFd.getD k []).getD s (0, 0, 0)).1 = 0 ∨ (((zFd.getD k []).getD s (0, 0, 0)).1 = 1 ∧ (x = 0 ∨ x = 1))) : zT y pc ls (.inl x :: .inr (k, j) :: r) g (pc + 3, ls, r, zU g k j s x) := by
  obtain ⟨hin, -⟩ := zLf_in hl
  have h1 := List.forall_mem_cons.mp hv.2.1
  have h2 := List.forall_mem_cons.mp h1.2
  have hj : j < zCn.getD k 0 := h2.1
  obtain ⟨C, T, N, ty, c1, c2, c3, c4, c5, c6, c7⟩ := zcls k hc
  have hsN : s < N := by rw [c6]; exact hsl
  rw [zTn_obj hc c2] at hin
  obtain ⟨i0, hi0⟩ := zE_at (k := k) (j := j) (by omega) hj
  have hne : ((zFd.getD k []).getD s (0, 0, 0)).1 ≠ 2 := by rcases h01 with h | ⟨h, -⟩ <;> omega
  have hfin : (T s).2.2.2 = false := by rcases h01 with h | ⟨h, -⟩; exact ((c7 s hsN).2.1 h).2; exact ((c7 s hsN).2.2 h).2
  have hnar : narrow (ty s) (.int (Int32.ofInt x)) = .int (Int32.ofInt x) ∧ fits (ty s) (.int (Int32.ofInt x)) = true := by
    rcases h01 with h | ⟨h, hx⟩
    · rw [((c7 s hsN).2.1 h).1]; exact ⟨rfl, rfl⟩
    · rw [((c7 s hsN).2.2 h).1]
      rcases hx with rfl | rfl <;> decide
  refine ⟨⟨⟨hv.1, h2.2, zU_ok hv.2.2 h1.1⟩, rfl, ?_⟩, fun Z A p l e R s' m args below meth c cells slots Q H locs lsA hC hH kk => ?_⟩
  · funext a b
    exact zU_other 60 a b (by omega)
  · have he := zws_at (Z := Z) (g := g) hi0
    rw [zcell_obj hc] at he
    rw [List.map_cons, List.map_cons, zvalR (by omega), show zval Z (.inl x) = .int (Int32.ofInt x) from rfl]
    refine va_put hC.1 hC.2.1 hC.2.2.2.2.1 c3 ty c4 c5 hC.2.2.2.1 hC.2.2.2.2.2.1 hH.2.1 hH.2.2.1 hH.2.2.2 i0 he c1 s hsN (hC.2.2.2.2.1 _ hin) (fun _ h => h) hfin (c4 s hsN) hnar.1 hnar.2 (by rw [zobj_len]; exact hsl) hd (fun H1 locs1 hP1 hD1 hS1 => ?_)
    rw [zobj_set hsl hne, ← zcell_obj hc, ← zws_set hi0 zU_other] at hP1 hD1
    exact kk H1 locs1 lsA ⟨hH.1, hP1, hD1, hS1⟩
theorem zT_putf (hd : decode (zBy y) pc = .ok (.putfield i, 3)) (hv : zVd ls st g) (hs : zputf y pc i ls st g = some (.inr (.inl q))) : zT y pc ls st g q := by
  unfold zputf at hs
  split at hs
  · rename_i x k j r
    split at hs
    · rename_i c s hl
      obtain ⟨hkc, hs⟩ := zif hs
      subst hkc
      obtain ⟨hin, hcl⟩ := zLf_in hl
      rcases hcl with h61 | ⟨hc, hsl⟩
      · subst h61
        have e0 : zF 61 s = if s = 0 then some (2, 62, 0) else some (3, 0, 0) := rfl
        by_cases hs0 : s = 0
        · rw [e0, if_pos hs0] at hs; cases hs
        · rw [e0, if_neg hs0] at hs; cases hs
      · rw [zF_obj hc hsl] at hs
        split at hs
        · rename_i hf
          have hf := Option.some.inj hf
          rw [znx_inj hs]
          exact zput_row hd hv hl hc hsl (Or.inl (by rw [hf]))
        · rename_i hf
          have hf := Option.some.inj hf
          obtain ⟨hx, hs⟩ := zif hs
          rw [znx_inj hs]
          exact zput_row hd hv hl hc hsl (Or.inr ⟨by rw [hf], hx⟩)
        · cases hs
    · cases hs
  · cases hs
theorem zT_ald {e : Nat} (he : e = 0 ∧ decode (zBy y) pc = .ok (.iaload, 1) ∨ e = 1 ∧ decode (zBy y) pc = .ok (.baload, 1) ∨ e = 2 ∧ decode (zBy y) pc = .ok (.aaload, 1)) (hv : zVd ls st g) (hs : zaload e pc ls st g = some (.inr (.inl q))) : zT y pc ls st g q := by
  unfold zaload at hs
  split at hs
  · rename_i x k j r
    have h1 := List.forall_mem_cons.mp hv.2.1
    have h2 := List.forall_mem_cons.mp h1.2
    have hx : zwr x = x := h1.1
    have hj : j < zCn.getD k 0 := h2.1
    split at hs
    · rename_i e' n ha
      obtain ⟨⟨q1, hx0, hx1⟩, hs⟩ := zif hs
      subst q1
      obtain ⟨k1, k2, k3, k4⟩ := zA_lt ha
      obtain ⟨i0, hi0⟩ := zE_at (k := k) (j := j) (by omega) hj
      rcases he with ⟨rfl, hd⟩ | ⟨rfl, hd⟩ | ⟨rfl, hd⟩
      · rw [if_neg (by decide)] at hs
        rw [znx_inj hs]
        refine zT.pure hv (List.forall_mem_cons.mpr ⟨hv.2.2 _ _ _, h2.2⟩) (fun {Z} _ _ _ _ _ _ _ _ _ _ _ _ _ _ _ _ _ hC hH kk => ?_)
        have hw := zws_at (Z := Z) (g := g) hi0
        rw [zcell_0 ha] at hw
        rw [List.map_cons, List.map_cons, zvalR (by omega)]
        refine va_iald hC.1 hC.2.1 hC.2.2.2.2.2.1 hH.2.1 i0 0 hw rfl (zI_in hx hx0 hx1) hd ?_
        rw [zI_nat hx hx0]
        exact kk
      · rw [if_neg (by decide)] at hs
        rw [znx_inj hs]
        refine zT.pure hv (List.forall_mem_cons.mpr ⟨hv.2.2 _ _ _, h2.2⟩) (fun {Z} _ _ _ _ _ _ _ _ _ _ _ _ _ _ _ _ _ hC hH kk => ?_)
        have hw := zws_at (Z := Z) (g := g) hi0
        rw [zcell_1 ha] at hw
        rw [List.map_cons, List.map_cons, zvalR (by omega)]
        refine va_bald hC.1 hC.2.1 hC.2.2.2.2.2.1 hH.2.1 i0 1 hw rfl (zI_in hx hx0 hx1) hd ?_
        rw [zI_nat hx hx0]
        exact kk
      · rw [if_pos rfl] at hs
        rw [znx_inj hs]
        have hn10 := zA_2 ha
        refine zT.pure hv (List.forall_mem_cons.mpr ⟨show 2 + x.toNat < 13 by omega, h2.2⟩) (fun {Z} _ _ _ _ _ _ _ _ _ _ _ _ _ _ _ _ _ hC hH kk => ?_)
        have hw := zws_at (Z := Z) (g := g) hi0
        rw [zcell_2 ha] at hw
        rw [List.map_cons, List.map_cons, zvalR (by omega)]
        refine va_aldq (C := RX1) hC.1 hC.2.1 hC.2.2.2.2.2.1 hH.2.1 i0 2 hw rfl (zI_in hx hx0 hx1) hd ?_
        rw [zI_nat hx hx0]
        rw [List.map_cons, zvalR (by decide)] at kk
        exact kk
    · rename_i ha
      by_cases h60 : k = 60 ∧ e = 0
      · rw [if_pos h60] at hs
        obtain ⟨rfl, rfl⟩ := h60
        obtain ⟨⟨hx0, hx1⟩, hs⟩ := zif hs
        rw [znx_inj hs]
        have hj0 : j = 0 := by have : j < 1 := hj; omega
        subst hj0
        have hd : decode (zBy y) pc = .ok (.iaload, 1) := by rcases he with ⟨-, hd⟩ | ⟨h, -⟩ | ⟨h, -⟩; exact hd; cases h; cases h
        refine zT.pure hv (List.forall_mem_cons.mpr ⟨hv.2.2 _ _ _, h2.2⟩) (fun {Z} _ _ _ _ _ _ _ _ _ _ _ _ _ _ _ _ _ hC hH kk => ?_)
        obtain ⟨L, xs, a1, a2, a3, a4, a5, a6⟩ := hC.2.2.2.2.2.2.2
        rw [List.map_cons, List.map_cons, zvalR (by decide)]
        refine va_sld hC.1 hC.2.1 a1 a6 a5 hH.2.2.2 (zI_in hx hx0 (by rw [← a2]; exact hx1)) hd ?_
        rw [zI_nat hx hx0, a4 _ (by rw [a2] at hx1; omega)]
        exact kk
      · rw [if_neg h60] at hs
        obtain ⟨⟨q1, q2⟩, hs1⟩ := zif hs
        obtain ⟨⟨hx0, hx1⟩, hs2⟩ := zif hs1
        rw [znx_inj hs2]
        subst q1; subst q2
        have hd : decode (zBy y) pc = .ok (.baload, 1) := by rcases he with ⟨h, -⟩ | ⟨-, hd⟩ | ⟨h, -⟩; cases h; exact hd; cases h
        have hj25 : j < 25 := hj
        have hok : zwr ((zTx.getD j []).getD x.toNat 0) = (zTx.getD j []).getD x.toNat 0 := by
          have ht : ∀ t ∈ zTx, ∀ v ∈ t, zwr v = v := by decide +kernel
          have hl : j < zTx.length := hj25
          rw [List.getD_eq_getElem?_getD (l := zTx), List.getElem?_eq_getElem hl] at hx1 ⊢
          have hl2 : x.toNat < (zTx[j]).length := by
            have : x < ((zTx[j]).length : Int) := hx1
            omega
          rw [Option.getD_some, List.getD_eq_getElem?_getD, List.getElem?_eq_getElem hl2]
          exact ht _ (List.getElem_mem hl) _ (List.getElem_mem hl2)
        refine zT.pure hv (List.forall_mem_cons.mpr ⟨hok, h2.2⟩) (fun {Z} _ _ _ _ _ _ _ _ _ _ _ _ _ _ _ _ _ hC hH kk => ?_)
        rw [List.map_cons, List.map_cons, zvalR (by decide)]
        exact va_tb hC.1 hC.2.1 (hC.2.2.2.2.2.2.1.1 j hj25).2.2.2.1 hH.2.2.2 (zI_in hx hx0 hx1) (by rw [zI_nat hx hx0]; rfl) hd kk
  · cases hs
theorem zT_ast {e : Nat} {f : Int → Int} (he : e = 0 ∧ f = id ∧ decode (zBy y) pc = .ok (.iastore, 1) ∨ e = 1 ∧ f = zi2b ∧ decode (zBy y) pc = .ok (.bastore, 1)) (hv : zVd ls st g) (hs : zastore e f pc ls st g = some (.inr (.inl q))) : zT y pc ls st g q := by
  unfold zastore at hs
  split at hs
  · rename_i x a k j r
    have h1 := List.forall_mem_cons.mp hv.2.1
    have h2 := List.forall_mem_cons.mp h1.2
    have h3 := List.forall_mem_cons.mp h2.2
    have hx : zwr x = x := h1.1
    have ha : zwr a = a := h2.1
    have hj : j < zCn.getD k 0 := h3.1
    split at hs
    · rename_i e' n hA
      obtain ⟨⟨q1, hx0, hx1⟩, hs1⟩ := zif hs
      rw [znx_inj hs1]
      subst q1
      obtain ⟨k1, k2, k3, k4⟩ := zA_lt hA
      obtain ⟨i0, hi0⟩ := zE_at (k := k) (j := j) (by omega) hj
      have hfx : zwr (f x) = f x := by
        rcases he with ⟨-, rfl, -⟩ | ⟨-, rfl, -⟩
        · exact hx
        · exact zwr_toInt _
      refine ⟨⟨⟨hv.1, h3.2, zU_ok hv.2.2 hfx⟩, rfl, ?_⟩, fun Z A p l e R s' m args below meth c cells slots Q H locs lsA hC hH kk => ?_⟩
      · funext b b2
        exact zU_other 60 b b2 (by omega)
      · have hw := zws_at (Z := Z) (g := g) hi0
        have hset := zws_set (Z := Z) (g := g) (g' := zU g k j a.toNat (f x)) hi0 zU_other
        rw [List.map_cons, List.map_cons, List.map_cons, zvalR (by omega)]
        rcases he with ⟨rfl, rfl, hd⟩ | ⟨rfl, rfl, hd⟩
        · rw [zcell_0 hA] at hw hset
          refine va_iast hC.1 hC.2.1 hC.2.2.2.2.2.1 hH.2.1 hH.2.2.1 hH.2.2.2 i0 0 hw rfl (zI_in ha hx0 hx1) hd (fun H1 locs1 hP1 hD1 hS1 => ?_)
          have hu : upd (fun i => Int32.ofInt (g k j i)) (Int32.ofInt a).toNatClampNeg (Int32.ofInt x) = fun i => Int32.ofInt (zU g k j a.toNat (id x) k j i) := by
            funext b
            rw [zI_nat ha hx0, zU_in]
            unfold upd
            split <;> rfl
          rw [hu, ← hset] at hP1 hD1
          exact kk H1 locs1 lsA ⟨hH.1, hP1, hD1, hS1⟩
        · rw [zcell_1 hA] at hw hset
          refine va_bast hC.1 hC.2.1 hC.2.2.2.2.2.1 hH.2.1 hH.2.2.1 hH.2.2.2 i0 1 hw rfl (zI_in ha hx0 hx1) hd (fun H1 locs1 hP1 hD1 hS1 => ?_)
          have hu : upd (fun i => Int32.ofInt (g k j i)) (Int32.ofInt a).toNatClampNeg (vp_nar .byte (Int32.ofInt x)) = fun i => Int32.ofInt (zU g k j a.toNat (zi2b x) k j i) := by
            funext b
            rw [zI_nat ha hx0, zU_in, vp_nar_byte]
            unfold upd
            split
            · unfold zi2b; rw [Int32.ofInt_toInt]
            · rfl
          rw [hu, ← hset] at hP1 hD1
          exact kk H1 locs1 lsA ⟨hH.1, hP1, hD1, hS1⟩
    · cases hs
  · cases hs
theorem zT_alen (hd : decode (zBy y) pc = .ok (.arraylength, 1)) {k j : Nat} {r : List zV} {v : Int} (hv : zVd ls (.inr (k, j) :: r) g) (hal : zal k j g = some v) (hs : znx (pc + 1) ls (.inl v :: r) g = some (.inr (.inl q))) : zT y pc ls (.inr (k, j) :: r) g q := by
  have h1 := List.forall_mem_cons.mp hv.2.1
  have hj : j < zCn.getD k 0 := h1.1
  rw [znx_inj hs]
  unfold zal at hal
  split at hal
  · rename_i e n ha
    have hal := Option.some.inj hal
    subst hal
    obtain ⟨k1, k2, k3, k4⟩ := zA_lt ha
    obtain ⟨i0, hi0⟩ := zE_at (k := k) (j := j) (by omega) hj
    refine zT.pure hv (List.forall_mem_cons.mpr ⟨zwr_id (by omega) (by omega), h1.2⟩) (fun {Z} _ _ _ _ _ _ _ _ _ _ _ _ _ _ _ _ _ hC hH kk => ?_)
    have hw := zws_at (Z := Z) (g := g) hi0
    rw [List.map_cons, zvalR (by omega)]
    rcases (show e = 0 ∨ e = 1 ∨ e = 2 by omega) with rfl | rfl | rfl
    · rw [zcell_0 ha] at hw
      exact va_alen hC.1 hC.2.1 hC.2.2.2.2.2.1 hH.2.1 i0 0 hw (ty := .int) rfl (Int32.ofInt_eq_ofNat.symm) hd kk
    · rw [zcell_1 ha] at hw
      exact va_alen hC.1 hC.2.1 hC.2.2.2.2.2.1 hH.2.1 i0 1 hw (ty := .byte) rfl (Int32.ofInt_eq_ofNat.symm) hd kk
    · rw [zcell_2 ha] at hw
      exact va_alen hC.1 hC.2.1 hC.2.2.2.2.2.1 hH.2.1 i0 2 hw (ty := .object RX1) rfl (Int32.ofInt_eq_ofNat.symm) hd kk
  · by_cases h60 : k = 60
    · subst h60
      rw [if_pos rfl] at hal
      have hal := Option.some.inj hal
      subst hal
      have hj0 : j = 0 := by have : j < 1 := hj; omega
      subst hj0
      refine zT.pure hv (List.forall_mem_cons.mpr ⟨hv.2.2 _ _ _, h1.2⟩) (fun {Z} _ _ _ _ _ _ _ _ _ _ _ _ _ _ _ _ _ hC hH kk => ?_)
      obtain ⟨L, xs, a1, a2, a3, a4, a5, a6⟩ := hC.2.2.2.2.2.2.2
      rw [List.map_cons, zvalR (by decide)]
      refine va_slen hC.1 hC.2.1 a1 a6 a5 hH.2.2.2 hd ?_
      rw [List.map_cons] at kk
      rw [← Int32.ofInt_eq_ofNat, ← a2]
      exact kk
    · rw [if_neg h60] at hal
      obtain ⟨rfl, hal⟩ := zif hal
      have hal := Option.some.inj hal
      subst hal
      have hj25 : j < 25 := hj
      have hlen : (zTx.getD j []).length < 100 := by
        have ht : ∀ t ∈ zTx, t.length < 100 := by decide +kernel
        have hl : j < zTx.length := hj25
        rw [List.getD_eq_getElem?_getD, List.getElem?_eq_getElem hl]
        exact ht _ (List.getElem_mem hl)
      refine zT.pure hv (List.forall_mem_cons.mpr ⟨zwr_id (by omega) (by omega), h1.2⟩) (fun {Z} _ _ _ _ _ _ _ _ _ _ _ _ _ _ _ _ _ hC hH kk => ?_)
      rw [List.map_cons, zvalR (by decide)]
      exact va_tlen hC.1 hC.2.1 (hC.2.2.2.2.2.2.1.1 j hj25).2.2.2.1 hH.2.2.2 (Int32.ofInt_eq_ofNat.symm) hd kk
theorem zT_ldc {strs : Bool} (hd : strs = true ∧ decode (zBy y) pc = .ok (.ldc i, 2) ∧ p2 = pc + 2 ∨ strs = false ∧ decode (zBy y) pc = .ok (.ldc_w i, 3) ∧ p2 = pc + 3) (hv : zVd ls st g) (hs : zldc y p2 i ls st g strs = some (.inr (.inl q))) : zT y pc ls st g q := by
  unfold zldc at hs
  split at hs
  · rename_i v hl
    have hin := zLc_in hl
    refine zT_push hv hs (fun hC kk => ?_)
    rcases hd with ⟨-, hd, rfl⟩ | ⟨-, hd, rfl⟩
    · exact lv_ldc hC.1 hC.2.1 hC.2.2.2.1 (hC.2.2.2.2.1 _ hin) hd kk
    · exact lv_ldcw hC.1 hC.2.1 hC.2.2.2.1 (hC.2.2.2.2.1 _ hin) hd kk
  · split at hs
    · rename_i j hl
      obtain ⟨⟨hj, hst⟩, hs⟩ := zif hs
      rw [znx_inj hs]
      obtain ⟨-, e1, e2⟩ := zLs_in hl
      rcases hd with ⟨-, hd, rfl⟩ | ⟨h, -, -⟩
      · refine zT.pure hv (List.forall_mem_cons.mpr ⟨hj, hv.2.1⟩) (fun {Z} _ _ _ _ _ _ _ _ _ _ _ _ _ _ _ _ _ hC hH kk => ?_)
        rw [List.map_cons, zvalR (by decide)] at kk
        have hR := (hC.2.2.2.2.2.2.1.1 j hj).2.2.2.2
        rw [e1, e2] at hR
        exact va_ldcS hC.1 hC.2.1 hC.2.2.2.1 hR hd kk
      · rw [h] at hst; cases hst
    · cases hs
end SH
