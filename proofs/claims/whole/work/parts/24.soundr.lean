/-! THE SMALL MACHINE IS THE MACHINE: calls, whole runs -/
theorem zB_blind {Z : zW} {A : Nat → Prop} {g : zG} {av : List Value} : FrameBlind (va_Pc av (zB Z A g)) := by
  intro a U f mk h
  obtain ⟨h0, h1, h2, h3, h4, h5⟩ := h
  refine ⟨h0, h1, va_K.moved (u := U) (U := U.calling f mk a) (Vm.Alike.refl U.vm) h2, h3, h4.blind, ?_⟩
  obtain ⟨L, xs, a1, a2, a3, a4, a5, a6⟩ := h5
  exact ⟨L, xs, va_X.moved (u := U) (U := U.calling f mk a) (Vm.Alike.refl U.vm) a1, a2, a3, a4, a5, a6⟩
theorem zB_at {Z : zW} {A : Nat → Prop} {p : Program} {s U : State} {m : MethodId} {args : Array Value} {c : Code} {y : Nat} {ls : List (Option zV)} {g : zG} {H : Heap} {locs : List Loc} {lsA : Array Slot} (hC : zC Z A p s m args c y (g 60)) (hH : zH Z A s y ls g H locs lsA) (hU : U.heap = H) (hW : s.WarmedH U.vm) : zB Z A g U :=
  ⟨by rw [hU]; exact hH.2.1, va_K.moved hW.alike hC.2.2.2.2.2.1, hH.2.2.1, by rw [hU]; exact hC.2.2.2.2.2.2.1.to hH.2.2.2 hW, by rw [hU]; exact hC.2.2.2.2.2.2.2.to hH.2.2.2 hW.alike⟩
theorem zW_call {p : Program} {l : Launch} {e : Env} {R : Room} {s : State} {m : MethodId} {args : Array Value} {below : List Frame} {meth : Method} {c : Code} {H : Heap} {locs : List Loc} {cells slots : Nat} {Q : State → Prop} {pc : Nat} {lsA : Array Slot} {st0 rest : List Value} {a : Array Value} {Z : zW} {A : Nat → Prop} {rv : Option zV} {g1 : zG}
    (hr : va_Run p l e R s m args below meth c H locs cells slots 0 0 (F0 m pc lsA st0) rest (zQc Z A rv g1 a) A) (hS : va_S A s.heap H locs)
    (kk : ∀ (H1 : Heap) (locs1 : List Loc), va_P Z.1 vwCl (zws Z g1) H1 → va_D A (zws Z g1) → va_S A s.heap H1 locs1 → W p l e R s m args below meth c H1 locs1 cells slots Q (F0 m (pc + 3) lsA (rv.toList.map (zval Z) ++ rest))) : W p l e R s m args below meth c H locs cells slots Q (F0 m pc lsA st0) := by
  intro T hT X
  obtain ⟨v, st₀, t, T', L, h0, X', hL, e1, e2, ⟨hv, hP, hD, hz, hk⟩, st⟩ := hr T hT X
  rw [h0] at hz hk
  have hv : v = rv.map (zval Z) := by
    simp only [Outcome.returned.injEq] at hv
    exact hv
  subst hv
  obtain ⟨t2, a1, b1⟩ := kk T'.heap (locs ++ L) (by rw [e1]; exact hP) hD
    ⟨Nat.le_trans hS.1 (by rw [e1]; exact hz), fun q h1 h2 => by rw [e1, hk q (Nat.lt_of_lt_of_le h1 hS.1) h2]; exact hS.2.1 q h1 h2, fun q hq => by
      rcases List.mem_append.mp hq with h | h
      · exact hS.2.2 q h
      · exact hL q h⟩ T' rfl X'
  refine ⟨t2, st t2 ?_, b1⟩
  have ev : (rv.map (zval Z)).toList = rv.toList.map (zval Z) := by cases rv <;> rfl
  rw [ev]
  exact a1
theorem zcat_sum {Z : zW} (hf : Z.2.2.2.2.2.category = 1) : ∀ (r : List zV), ((r.map (zval Z)).map fun v => v.category).sum = r.length
  | [] => rfl
  | v :: r => by
    have ih := zcat_sum hf r
    rw [List.map_cons, List.map_cons, List.sum_cons, zval_cat hf v, ih, List.length_cons, Nat.add_comm]
theorem zrt_spec {y : Nat} {rv : Option zV} {st st'' : List zV} (h : zrt y rv st = some st'') : st'' = rv.toList ++ st := by
  unfold zrt at h
  split at h
  · exact (Option.some.inj (zif h).2).symm
  · exact (Option.some.inj (zif h).2).symm
  · exact (Option.some.inj (zif h).2).symm
section RU
variable {y pc d i : Nat} {ls : List (Option zV)} {st : List zV} {g g1 : zG} {rv1 : Option zV}
set_option maxHeartbeats 2000000 in
/-- a call of a method that has code -/
theorem zs_call {y' : Nat} {as rest : List zV} {v : Bool} (hd : decode (zBy y) pc = .ok (if v then .invokevirtual i else .invokestatic i, 3)) (hv : zVd ls st g) (hlk : zLk zLm (zOw y) i = some y') (hst : zSt y' = (!v)) (hs : st = as.reverse ++ rest) (hn : as.length = zNa y') (h8 : rest.length ≤ 8) (hvi : v = true → ∃ j as', as = .inr (zKd y', j) :: as') (hy : y' < 255) (ha : as.length ≤ zMl y') (h : zSo y' d 0 (zini y' as) [] g rv1 g1)
    {Z : zW} {A : Nat → Prop} {p : Program} {l : Launch} {e : Env} {R : Room} {s : State} {m : MethodId} {args : Array Value} {below : List Frame} {meth : Method} {c : Code} {cells slots : Nat} {Q : State → Prop} {H : Heap} {locs : List Loc} {lsA : Array Slot}
    (hC : zC Z A p s m args c y (g 60)) (hH : zH Z A s y ls g H locs lsA) (hR : d + 1 ≤ R.frames ∧ (d + 1) * 40 ≤ R.locals ∧ cells ≤ R.cells ∧ slots ≤ R.slots)
    (kk : ∀ (H1 : Heap) (locs1 : List Loc), va_P Z.1 vwCl (zws Z g1) H1 → va_D A (zws Z g1) → va_S A s.heap H1 locs1 → W p l e R s m args below meth c H1 locs1 cells slots Q (F0 m (pc + 3) lsA (rv1.toList.map (zval Z) ++ rest.map (zval Z)))) : W p l e R s m args below meth c H locs cells slots Q (F0 m pc lsA (st.map (zval Z))) := by
  obtain ⟨w1, w2, w3, w4, w5, w6, w7, w8, w9, w10⟩ := zword hy
  obtain ⟨hlink, hni⟩ := zLm_in hlk
  have hni := (hni.resolve_left (by omega)).2
  have hnm : znm y' = zNm y' := by unfold znm; rw [if_neg (by omega)]
  rw [hnm] at hlink hni
  have hM := zMet l (Z := Z) (A := A) hy ha h
  have hcat := hC.2.2.2.2.2.2.1.2.2.2
  have hroom : 8 + (zMl y' + 11) + (zrm d).locals ≤ R.locals := by show 8 + (zMl y' + 11) + d * 40 ≤ R.locals; omega
  have hfix : CallFix p m c (zBy y) (zMl y) s args wsL_law (zRs (zOw y)) := ⟨hC.1, hC.2.1, hC.2.2.1, hC.2.2.2.1, hC.2.2.2.2.1⟩
  have hts := hC.2.2.2.2.1
  have hg : GoodIn wsL_law (Cond.code (zNm y') (zBy y') (zMl y') (zRy y') :: wsL_law) := by
    intro w hw
    rcases List.mem_cons.mp hw with rfl | hw
    · exact ⟨w1, zgood _ w1⟩
    · exact ⟨hw, zgood _ hw⟩
  have hsum : ((rest.map (zval Z)).map fun v => v.category).sum ≤ 8 := by rw [zcat_sum hcat]; exact h8
  cases v with
  | false =>
    have hS1 : zSt y' = true := hst
    rw [hS1] at w2 w8
    simp only [if_true] at w2
    simp only [if_true, Nat.add_zero] at w8
    have cb : CallB R s args (zRs (zOw y)) i (zNm y') (zBy y') (zMl y') (zRy y') (Cond.code (zNm y') (zBy y') (zMl y') (zRy y') :: wsL_law) (zrm d) 0 0 (zNa y') := callB_of (zNa y') hts hg rfl rfl rfl (hts _ w4) (hts _ hlink) ⟨w7.1, w7.2, w8⟩ ⟨hR.1, hroom⟩
    refine zW_call (rest := rest.map (zval Z)) (va_runS (As := as.map (zval Z)) hfix hM ⟨cb, hts _ w2⟩ ⟨zB_blind, fun U hU hW => ⟨rfl, zB_at hC hH hU hW⟩⟩ rfl (by simp [hn]) hH.1.1 (by rw [hs]; simp) (lv_room hsum) hd ⟨hR.2.2.1, hR.2.2.2⟩) hH.2.2.2 kk
  | true =>
    obtain ⟨j, as', rfl⟩ := hvi rfl
    have hS1 : zSt y' = false := hst
    have w3 : (zNm y').name = "<init>" ∨ Cond.selects (zNm y').cls (zNm y') (zNm y') ∈ wsL_law := by
      rcases w3 with h | h
      · rw [hS1] at h; cases h
      · exact h
    have w10 : (zNm y').name = "<init>" ∨ (zRs (zOw y') = (if zKd y' = 61 then "java/lang/String" else (vwCl.getD (zKd y') (RX0, TX0, 5)).1) ∧ (zKd y' < 13 ∨ zKd y' = 61)) := by
      rcases w10 with h | h
      · rw [hS1] at h; cases h
      · exact h
    rw [hS1] at w2 w8
    simp only [Bool.false_eq_true, if_false] at w2 w8
    have w3 := w3.resolve_left hni
    have w10 := w10.resolve_left hni
    have hkj : j < zCn.getD (zKd y') 0 := by
      have : zok (.inr (zKd y', j)) := hv.2.1 _ (by rw [hs]; simp)
      exact this
    have h63 : zKd y' ≠ 63 := by rcases w10.2 with h | h <;> omega
    have hrecv : ∃ cellB : Cell, H[zad Z (zKd y') j]? = some cellB ∧ cellB.vm.isStatics = false ∧ s.vm.findClass (zNm y').cls = some cellB.cls := by
      rw [w5, w10.1]
      rcases w10.2 with hk | hk
      · rw [if_neg (by omega)]
        obtain ⟨C, T, N, ty, c1, c2, -⟩ := zcls (zKd y') hk
        obtain ⟨i0, hi0⟩ := zE_at (k := zKd y') (j := j) (by omega) hkj
        have he := zws_at (Z := Z) (g := g) hi0
        rw [zcell_obj hk] at he
        have := va_recv hC.2.2.2.2.2.1 hH.2.1 c1 he
        rw [c2]
        exact this
      · rw [if_pos hk, hk]
        rw [hk] at hkj
        obtain ⟨cell, q1, q2, q3, q4⟩ := (hC.2.2.2.2.2.2.1.1 j hkj).1
        exact ⟨cell, by rw [hH.2.2.2.2.1 _ (Array.getElem?_eq_some_iff.mp q1).1 q4]; exact q1, q2, q3⟩
    have hlen : (as'.map (zval Z)).length = zNa y' - 1 := by
      rw [List.length_map]
      have : as'.length + 1 = zNa y' := hn
      omega
    have w8' : (parseMethodDescriptor (zNm y').desc).map (fun d => d.parameters.length) = some (zNa y' - 1) := by
      cases hp : parseMethodDescriptor (zNm y').desc with
      | none => rw [hp] at w8; cases w8
      | some sg =>
        rw [hp] at w8
        simp only [Option.map_some, Option.some.injEq] at w8 ⊢
        omega
    have cb : CallB R s args (zRs (zOw y)) i (zNm y') (zBy y') (zMl y') (zRy y') (Cond.code (zNm y') (zBy y') (zMl y') (zRy y') :: wsL_law) (zrm d) 0 0 (zNa y' - 1) := callB_of (zNa y' - 1) hts hg rfl rfl rfl (hts _ w4) (hts _ hlink) ⟨w7.1, w7.2, w8'⟩ ⟨hR.1, hroom⟩
    refine zW_call (rest := rest.map (zval Z)) (va_runV (C := (zNm y').cls) (b := zad Z (zKd y') j) (As := as'.map (zval Z)) hfix hM ⟨cb, hts _ w2, hts _ w3⟩ ⟨zB_blind, hrecv, fun U hU hW => ⟨?_, zB_at hC hH hU hW⟩⟩ rfl hlen hH.1.1 ?_ (lv_room hsum) hd ⟨hR.2.2.1, hR.2.2.2⟩) hH.2.2.2 kk
    · rw [List.map_cons, zvalR h63]
    · rw [hs]
      simp [zvalR h63]
theorem z_nat : Cond.native arraycopyName ∈ wsL_law ∧ Cond.static arraycopyName ∈ wsL_law ∧ Cond.initialized "java/lang/System" ∈ wsL_law := ⟨List.mem_of_getElem? (i := 573) (by decide +kernel), List.mem_of_getElem? (i := 574) (by decide +kernel), List.mem_of_getElem? (i := 575) (by decide +kernel)⟩
set_option maxHeartbeats 2000000 in
/-- System.arraycopy -/
theorem zs_copy {as rest : List zV} (hd : decode (zBy y) pc = .ok (.invokestatic i, 3)) (hv : zVd ls st g) (hlk : zLk zLm (zOw y) i = some 999) (hs : st = as.reverse ++ rest) (h8 : rest.length ≤ 8) (hcp : zcp as g = some (rv1, g1)) :
    (rv1 = none ∧ (∀ k j s, zwr (g1 k j s) = g1 k j s) ∧ g1 60 = g 60) ∧
    ∀ {Z : zW} {A : Nat → Prop} {p : Program} {l : Launch} {e : Env} {R : Room} {s : State} {m : MethodId} {args : Array Value} {below : List Frame} {meth : Method} {c : Code} {cells slots : Nat} {Q : State → Prop} {H : Heap} {locs : List Loc} {lsA : Array Slot},
    zC Z A p s m args c y (g 60) → zH Z A s y ls g H locs lsA → (d + 1 ≤ R.frames ∧ (d + 1) * 40 ≤ R.locals ∧ cells ≤ R.cells ∧ slots ≤ R.slots) →
    (∀ (H1 : Heap) (locs1 : List Loc), va_P Z.1 vwCl (zws Z g1) H1 → va_D A (zws Z g1) → va_S A s.heap H1 locs1 → W p l e R s m args below meth c H1 locs1 cells slots Q (F0 m (pc + 3) lsA (rest.map (zval Z)))) → W p l e R s m args below meth c H locs cells slots Q (F0 m pc lsA (st.map (zval Z))) := by
  unfold zcp at hcp
  split at hcp
  · rename_i k j sp k2 j2 dp n
    split at hcp
    · rename_i m1 m2 ha hb
      obtain ⟨⟨c1, c2, c3, c4, c5⟩, hcp⟩ := zif hcp
      simp only [Option.some.injEq, Prod.mk.injEq] at hcp
      obtain ⟨rfl, hg⟩ := hcp
      have hok : ∀ v ∈ [Sum.inr (k, j), Sum.inl sp, Sum.inr (k2, j2), Sum.inl dp, Sum.inl n], zok v := fun v h => hv.2.1 v (by rw [hs]; exact List.mem_append_left _ (List.mem_reverse.mpr h))
      have hj : j < zCn.getD k 0 := hok (.inr (k, j)) (by simp)
      have hj2 : j2 < zCn.getD k2 0 := hok (.inr (k2, j2)) (by simp)
      have hsp : zwr sp = sp := hok (.inl sp) (by simp)
      have hdp : zwr dp = dp := hok (.inl dp) (by simp)
      have hn : zwr n = n := hok (.inl n) (by simp)
      obtain ⟨k1, k3, -, -⟩ := zA_lt ha
      obtain ⟨k4, k5, -, -⟩ := zA_lt hb
      have hother : ∀ a b s, ¬ (a = k2 ∧ b = j2) → g1 a b s = g a b s := by
        intro a b s h
        rw [← hg]
        exact if_neg h
      refine ⟨⟨rfl, fun a b s => ?_, ?_⟩, ?_⟩
      · rw [← hg]
        dsimp only
        split
        · split
          · exact hv.2.2 _ _ _
          · exact hv.2.2 _ _ _
        · exact hv.2.2 _ _ _
      · funext a b
        exact hother 60 a b (by omega)
      · intro Z A p l e R s m args below meth c cells slots Q H locs lsA hC hH hR kk
        obtain ⟨hlink, -⟩ := zLm_in hlk
        have hlink : Cond.methodLink (zRs (zOw y)) i arraycopyName ∈ wsL_law := hlink
        obtain ⟨i0, hi0⟩ := zE_at (k := k) (j := j) (by omega) hj
        obtain ⟨i1, hi1⟩ := zE_at (k := k2) (j := j2) (by omega) hj2
        have hw0 := zws_at (Z := Z) (g := g) hi0
        have hw1 := zws_at (Z := Z) (g := g) hi1
        have hset := zws_set (Z := Z) (g := g) (g' := g1) hi1 hother
        rw [zcell_0 ha] at hw0
        rw [zcell_0 hb] at hw1 hset
        have hts := hC.2.2.2.2.1
        have hcat := hC.2.2.2.2.2.2.1.2.2.2
        have est : st.map (zval Z) = .int (Int32.ofInt n) :: .int (Int32.ofInt dp) :: .ref (zad Z k2 j2) :: .int (Int32.ofInt sp) :: .ref (zad Z k j) :: rest.map (zval Z) := by
          rw [hs]
          simp [zval, show ¬ k = 63 by omega, show ¬ k2 = 63 by omega]
        rw [est]
        refine va_copyi (ty := .int) hC.1 hC.2.1 (by rw [hC.2.2.1, hH.1.1]) hC.2.2.2.1 (hts _ hlink) (hts _ z_nat.1) (hts _ z_nat.2.1) (hts _ z_nat.2.2) hC.2.2.2.2.2.1 hH.2.1 hH.2.2.1 hH.2.2.2 i0 i1 0 0 hw0 hw1 rfl rfl rfl (zI_ge0 hsp c1) (zI_ge0 hdp c2) (zI_ge0 hn c3) (by rw [zI_nat hsp c1, zI_nat hn c3]; omega) (by rw [zI_nat hdp c2, zI_nat hn c3]; omega) (fun _ _ => rfl) (by omega) (by rw [zcat_sum hcat]; show rest.length + (5 + 2 + 11) ≤ R.locals; omega) hd (fun H1 locs1 hP1 hD1 hS1 => ?_)
        have hu : va_cpy (fun i => Int32.ofInt (g k j i)) (fun i => Int32.ofInt (g k2 j2 i)) (Int32.ofInt sp).toNatClampNeg (Int32.ofInt dp).toNatClampNeg (Int32.ofInt n).toNatClampNeg = fun i => Int32.ofInt (g1 k2 j2 i) := by
          funext b
          rw [zI_nat hsp c1, zI_nat hdp c2, zI_nat hn c3, ← hg]
          unfold va_cpy
          dsimp only
          simp only [and_self, if_true]
          split <;> rfl
        rw [hu, ← hset] at hP1 hD1
        exact kk H1 locs1 hP1 hD1 hS1
    · cases hcp
  · cases hcp
end RU
set_option maxHeartbeats 2000000 in
/-- EVERY RUN OF THE SMALL MACHINE IS A RUN OF THE MACHINE -/
theorem zsound : ∀ (n d y pc : Nat) (ls : List (Option zV)) (st : List zV) (g : zG) (rv : Option zV) (g' : zG), zrun n d y pc ls st g = some (rv, g') → zVd ls st g → ls.length = zMl y → zSo y d pc ls st g rv g' := by
  intro n
  induction n with
  | zero => intro d y pc ls st g rv g' h; simp [zrun] at h
  | succ n ih =>
    intro d y pc ls st g rv g' h hv hl
    simp only [zrun] at h
    cases hs : zstep y pc ls st g with
    | none => rw [hs] at h; simp at h
    | some r =>
      rw [hs] at h
      unfold zstep at hs
      cases hd : decode (zBy y) pc with
      | error x => rw [hd] at hs; cases hs
      | ok In =>
        obtain ⟨I, len⟩ := In
        rw [hd] at hs
        have hz : zex y pc I len ls st g = some r := hs
        rcases zex_cases hd hz with ⟨q, rfl⟩ | ⟨rv', rfl, hst, hret⟩ | ⟨i, v, hd2, hcall⟩
        · obtain ⟨⟨v1, v2, v3⟩, hW⟩ := zs_nx hd hz hv hl
          obtain ⟨pc', ls', st', g2⟩ := q
          have hn := ih d y pc' ls' st' g2 rv g' h v1 (v2.trans hl)
          refine ⟨⟨hn.1.1, hn.1.2.1, hn.1.2.2.trans v3⟩, fun Z A p l e R s m args below meth c cells slots Q H locs lsA hC hH hR kk => ?_⟩
          refine hW Z A p l e R s m args below meth c cells slots Q H locs lsA hC hH (fun H' locs' lsA' hH' => ?_)
          exact hn.2 Z A p l e R s m args below meth c cells slots Q H' locs' lsA' (by have e : g2 60 = g 60 := v3; rw [e]; exact hC) hH' hR kk
        · simp only [Option.some.injEq, Prod.mk.injEq] at h
          obtain ⟨rfl, rfl⟩ := h
          subst hst
          refine ⟨⟨fun v e => hv.2.1 v (by rw [e]; simp), hv.2.2, rfl⟩, fun Z A p l e R s m args below meth c cells slots Q H locs lsA hC hH hR kk => kk pc lsA H locs hret hH.2.1 hH.2.2.1 hH.2.2.2⟩
        · obtain ⟨y', as, rest, rfl, hlk, hst, hs', hn, h8, hvi⟩ := zcall_spec hcall
          have asok : ∀ v ∈ as, zok v := fun v hv' => hv.2.1 v (by rw [hs']; exact List.mem_append_left _ (List.mem_reverse.mpr hv'))
          have rsok : ∀ v ∈ rest, zok v := fun v hv' => hv.2.1 v (by rw [hs']; exact List.mem_append_right _ hv')
          cases d with
          | zero => simp at h
          | succ d' =>
            simp only at h
            cases hc : (if y' = 999 then zcp as g else if as.length ≤ zMl y' then zrun n d' y' 0 (zini y' as) [] g else none) with
            | none => rw [hc] at h; simp at h
            | some q =>
              obtain ⟨rv1, g1⟩ := q
              rw [hc] at h
              simp only at h
              cases hr : zrt y' rv1 rest with
              | none => rw [hr] at h; simp at h
              | some st'' =>
                rw [hr] at h
                have e := zrt_spec hr
                subst e
                by_cases h999 : y' = 999
                · subst h999
                  rw [if_pos rfl] at hc
                  have hv0 : v = false := by cases v; rfl; cases hst
                  subst hv0
                  obtain ⟨⟨e1, e2, e3⟩, hW⟩ := zs_copy (d := d') hd2 hv hlk hs' h8 hc
                  subst e1
                  have hn2 := ih (d' + 1) y (pc + 3) ls rest g1 rv g' h ⟨hv.1, rsok, e2⟩ hl
                  refine ⟨⟨hn2.1.1, hn2.1.2.1, hn2.1.2.2.trans e3⟩, fun Z A p l e R s m args below meth c cells slots Q H locs lsA hC hH hR kk => ?_⟩
                  exact hW hC hH hR (fun H1 locs1 hP1 hD1 hS1 => hn2.2 Z A p l e R s m args below meth c cells slots Q H1 locs1 lsA (by rw [e3]; exact hC) ⟨hH.1, hP1, hD1, hS1⟩ hR kk)
                · rw [if_neg h999] at hc
                  obtain ⟨ha, hc⟩ := zif hc
                  have hy : y' < 255 := by
                    rcases (zLm_in hlk).2 with h | h
                    · exact absurd h h999
                    · exact h.1
                  have hS := ih d' y' 0 (zini y' as) [] g rv1 g1 hc ⟨fun i v h => asok v (List.mem_of_getElem? (zini_at h)), (fun _ h => by cases h), hv.2.2⟩ (by unfold zini; simp; omega)
                  have hok2 : ∀ v ∈ rv1.toList ++ rest, zok v := by
                    intro v hv'
                    rcases List.mem_append.mp hv' with h | h
                    · exact hS.1.1 v (by cases rv1 with
                        | none => cases h
                        | some w => simp at h; rw [h])
                    · exact rsok v h
                  have hn2 := ih (d' + 1) y (pc + 3) ls (rv1.toList ++ rest) g1 rv g' h ⟨hv.1, hok2, hS.1.2.1⟩ hl
                  refine ⟨⟨hn2.1.1, hn2.1.2.1, hn2.1.2.2.trans hS.1.2.2⟩, fun Z A p l e R s m args below meth c cells slots Q H locs lsA hC hH hR kk => ?_⟩
                  refine zs_call hd2 hv hlk hst hs' hn h8 hvi hy ha hS hC hH hR (fun H1 locs1 hP1 hD1 hS1 => ?_)
                  have := hn2.2 Z A p l e R s m args below meth c cells slots Q H1 locs1 lsA (by rw [hS.1.2.2]; exact hC) ⟨hH.1, hP1, hD1, hS1⟩ hR kk
                  rw [List.map_append] at this
                  exact this
