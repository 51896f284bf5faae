/-! THE SMALL MACHINE IS THE MACHINE: what an instruction can come to; returns, calls, whole runs -/
def zNx (x : Option zRt) : Prop := ∀ r, x = some r → ∃ q, r = .inr (.inl q)
section NX
variable {y pc p2 k i e : Nat} {ls : List (Option zV)} {st : List zV} {g : zG} {x a o : Int} {b : Bool} {f : Int → Int → Int} {f1 : Int → Int}
theorem zNx_nx : zNx (znx p2 ls st g) := fun r h => ⟨_, (Option.some.inj h).symm⟩
theorem zNx_no : zNx none := fun r h => by cases h
theorem zNx_if {c : Prop} [Decidable c] {u v : Option zRt} (hu : zNx u) (hv : zNx v) : zNx (if c then u else v) := by split; exact hu; exact hv
theorem zNx_push : zNx (zpush p2 x ls st g) := zNx_if zNx_nx zNx_no
theorem zNx_ld : zNx (zld p2 k ls st g b) := by
  unfold zld
  split
  · exact zNx_if zNx_nx zNx_no
  · exact zNx_if zNx_nx zNx_no
  · exact zNx_no
theorem zNx_sto : zNx (zsto p2 k ls st g b) := by
  unfold zsto
  split
  · exact zNx_if zNx_nx zNx_no
  · exact zNx_if zNx_nx zNx_no
  · exact zNx_no
theorem zNx_bin : zNx (zbin f pc ls st g) := by
  unfold zbin
  split
  · exact zNx_nx
  · exact zNx_no
theorem zNx_div : zNx (zdivs f pc ls st g) := by
  unfold zdivs
  split
  · exact zNx_if zNx_no zNx_nx
  · exact zNx_no
theorem zNx_go : zNx (zgo pc o ls st g) := by
  unfold zgo
  split
  · exact zNx_no
  · exact zNx_nx
theorem zNx_br : zNx (zbr b pc o ls st g) := by
  unfold zbr
  split
  · exact zNx_go
  · split
    · exact zNx_no
    · exact zNx_nx
theorem zNx_ldc : zNx (zldc y p2 i ls st g b) := by
  unfold zldc
  split
  · exact zNx_push
  · split
    · exact zNx_if zNx_nx zNx_no
    · exact zNx_no
theorem zNx_getf : zNx (zgetf y pc i ls st g) := by
  unfold zgetf
  split
  · split
    · refine zNx_if ?_ zNx_no
      split
      · exact zNx_nx
      · exact zNx_nx
      · exact zNx_nx
      · exact zNx_no
    · exact zNx_no
  · exact zNx_no
theorem zNx_putf : zNx (zputf y pc i ls st g) := by
  unfold zputf
  split
  · split
    · refine zNx_if ?_ zNx_no
      split
      · exact zNx_nx
      · exact zNx_if zNx_nx zNx_no
      · exact zNx_no
    · exact zNx_no
  · exact zNx_no
theorem zNx_ald : zNx (zaload e pc ls st g) := by
  unfold zaload
  split
  · split
    · exact zNx_if (zNx_if zNx_nx zNx_nx) zNx_no
    · exact zNx_if (zNx_if zNx_nx zNx_no) (zNx_if (zNx_if zNx_nx zNx_no) zNx_no)
  · exact zNx_no
theorem zNx_ast : zNx (zastore e f1 pc ls st g) := by
  unfold zastore
  split
  · split
    · exact zNx_if zNx_nx zNx_no
    · exact zNx_no
  · exact zNx_no
theorem zNx_swT {d lo hi : Int} {os : Array Int} : zNx (zswT pc d lo hi os ls st g) := by
  unfold zswT
  split
  · refine zNx_if zNx_go ?_
    split
    · exact zNx_go
    · exact zNx_no
  · exact zNx_no
theorem zNx_swL {d : Int} {ps : Array (Int × Int)} : zNx (zswL pc d ps ls st g) := by
  unfold zswL
  split
  · exact zNx_if zNx_go zNx_no
  · exact zNx_no
end NX
def zRet (y : Nat) (rv : Option zV) (pc : Nat) : Prop := match rv with
  | none => decode (zBy y) pc = .ok (.return_, 1) ∧ zRk y = 0
  | some (.inl x) => decode (zBy y) pc = .ok (.ireturn, 1) ∧ zrtok (zRy y) x = true
  | some (.inr q) => decode (zBy y) pc = .ok (.areturn, 1) ∧ zRk y = 2 ∧ q.1 ≠ 63
section CA
variable {y pc n : Nat} {ls : List (Option zV)} {st : List zV} {g : zG} {I : Instr} {r : zRt}
set_option maxHeartbeats 2000000 in
theorem zex_cases (hd : decode (zBy y) pc = .ok (I, n)) (h : zex y pc I n ls st g = some r) : (∃ q, r = .inr (.inl q)) ∨ (∃ rv, r = .inl rv ∧ st = rv.toList ∧ zRet y rv pc) ∨ ∃ (i : Nat) (v : Bool), decode (zBy y) pc = .ok (if v then .invokevirtual i else .invokestatic i, 3) ∧ zcall y pc i st v = some r := by
  unfold zex at h
  split at h
  all_goals first
    | exact Or.inl (zNx_push _ (zif h).2)
    | exact Or.inl (zNx_ldc _ (zif h).2)
    | exact Or.inl (zNx_ld _ (zif h).2)
    | exact Or.inl (zNx_sto _ (zif h).2)
    | exact Or.inl (zNx_bin _ (zif h).2)
    | exact Or.inl (zNx_div _ (zif h).2)
    | exact Or.inl (zNx_go _ (zif h).2)
    | exact Or.inl (zNx_getf _ (zif h).2)
    | exact Or.inl (zNx_putf _ (zif h).2)
    | exact Or.inl (zNx_ald _ (zif h).2)
    | exact Or.inl (zNx_ast _ (zif h).2)
    | exact Or.inl (zNx_swT _ h)
    | exact Or.inl (zNx_swL _ h)
    | (cases h; done)
    | skip
  · left
    obtain ⟨-, h⟩ := zif h
    split at h
    · exact zNx_nx _ h
    · cases h
  · left
    obtain ⟨-, h⟩ := zif h
    split at h
    · exact zNx_nx _ h
    · cases h
  · left
    obtain ⟨-, h⟩ := zif h
    split at h
    · exact zNx_nx _ h
    · cases h
  · left
    obtain ⟨-, h⟩ := zif h
    split at h
    · exact zNx_nx _ h
    · cases h
  · left
    obtain ⟨-, h⟩ := zif h
    split at h
    · exact zNx_nx _ h
    · cases h
  · left
    obtain ⟨-, h⟩ := zif h
    split at h
    · exact zNx_nx _ h
    · cases h
  · left
    obtain ⟨-, h⟩ := zif h
    split at h
    · exact zNx_nx _ h
    · cases h
  · left
    obtain ⟨-, h⟩ := zif h
    split at h
    · exact zNx_br _ h
    · cases h
  · left
    obtain ⟨-, h⟩ := zif h
    split at h
    · exact zNx_br _ h
    · cases h
  · left
    obtain ⟨-, h⟩ := zif h
    split at h
    · exact zNx_nx _ h
    · exact zNx_nx _ h
    · cases h
  · left
    obtain ⟨-, h⟩ := zif h
    split at h
    · split at h
      · exact zNx_nx _ h
      · cases h
    · cases h
  · right; left
    replace h := zif h
    obtain ⟨hn, h⟩ := h
    subst hn
    split at h
    · obtain ⟨h1, h⟩ := zif h
      exact ⟨_, (Option.some.inj h).symm, rfl, hd, h1⟩
    · cases h
  · right; left
    replace h := zif h
    obtain ⟨hn, h⟩ := h
    subst hn
    split at h
    · obtain ⟨h1, h⟩ := zif h
      exact ⟨_, (Option.some.inj h).symm, rfl, hd, h1⟩
    · cases h
  · right; left
    replace h := zif h
    obtain ⟨hn, h⟩ := h
    subst hn
    split at h
    · obtain ⟨h1, h⟩ := zif h
      exact ⟨_, (Option.some.inj h).symm, rfl, hd, h1⟩
    · cases h
  · right; right
    replace h := zif h
    obtain ⟨hn, h⟩ := h
    subst hn
    exact ⟨_, true, hd, h⟩
  · right; right
    replace h := zif h
    obtain ⟨hn, h⟩ := h
    subst hn
    exact ⟨_, false, hd, h⟩
theorem zcall_spec {i : Nat} {v : Bool} (h : zcall y pc i st v = some r) : ∃ y' as rest, r = .inr (.inr (y', as, pc + 3, rest)) ∧ zLk zLm (zOw y) i = some y' ∧ zSt y' = (!v) ∧ st = as.reverse ++ rest ∧ as.length = zNa y' ∧ rest.length ≤ 8 ∧ (v = true → ∃ j as', as = .inr (zKd y', j) :: as') := by
  unfold zcall at h
  split at h
  · rename_i y' hl
    replace h := zif h
    obtain ⟨⟨h1, h2, h3⟩, h⟩ := h
    have ht : st = ((st.take (zNa y')).reverse).reverse ++ st.drop (zNa y') := by rw [List.reverse_reverse, List.take_append_drop]
    have hlen : (st.take (zNa y')).reverse.length = zNa y' := by rw [List.length_reverse, List.length_take]; omega
    split at h
    · exact ⟨y', _, _, (Option.some.inj h).symm, hl, h3, ht, hlen, h2, fun z => by cases z⟩
    · rename_i k j as ha
      replace h := zif h
      obtain ⟨hk, h⟩ := h
      subst hk
      rw [ha] at ht hlen
      exact ⟨y', _, _, (Option.some.inj h).symm, hl, h3, ht, hlen, h2, fun _ => ⟨j, as, rfl⟩⟩
    · cases h
  · cases h
end CA
def zrm (d : Nat) : Room := { frames := d, cells := 0, slots := 0, locals := d * 40 }
def zB (Z : zW) (A : Nat → Prop) (g : zG) (U : State) : Prop := va_P Z.1 vwCl (zws Z g) U.heap ∧ va_K Z.1 vwCl (zty Z) U ∧ va_D A (zws Z g) ∧ zEnv Z A U U.heap ∧ zScr Z A (g 60) U U.heap
def zQc (Z : zW) (A : Nat → Prop) (rv : Option zV) (g' : zG) : Array Value → State → Outcome → State → Prop := fun _ st oc t => oc = .returned (rv.map (zval Z)) ∧ va_P Z.1 vwCl (zws Z g') t.heap ∧ va_D A (zws Z g') ∧ va_F A st t
def zSo (y d pc : Nat) (ls : List (Option zV)) (st : List zV) (g : zG) (rv : Option zV) (g' : zG) : Prop :=
  ((∀ v, rv = some v → zok v) ∧ (∀ k j s, zwr (g' k j s) = g' k j s) ∧ g' 60 = g 60) ∧
  ∀ (Z : zW) (A : Nat → Prop) (p : Program) (l : Launch) (e : Env) (R : Room) (s : State) (m : MethodId) (args : Array Value) (below : List Frame) (meth : Method) (c : Code) (cells slots : Nat) (Q : State → Prop) (H : Heap) (locs : List Loc) (lsA : Array Slot),
    zC Z A p s m args c y (g 60) → zH Z A s y ls g H locs lsA → (d ≤ R.frames ∧ d * 40 ≤ R.locals ∧ cells ≤ R.cells ∧ slots ≤ R.slots) →
    (∀ (pc2 : Nat) (lsA2 : Array Slot) (H2 : Heap) (locs2 : List Loc), zRet y rv pc2 → va_P Z.1 vwCl (zws Z g') H2 → va_D A (zws Z g') → va_S A s.heap H2 locs2 → W p l e R s m args below meth c H2 locs2 cells slots Q (F0 m pc2 lsA2 (rv.toList.map (zval Z)))) →
    W p l e R s m args below meth c H locs cells slots Q (F0 m pc lsA (st.map (zval Z)))
/-- Met.ofW for a method of any class, by the method's own name -/
theorem Met.ofWF {l : Launch} {y : MethodName} {ws ws' : List Cond} {rm : Room} {Pc : Array Value → State → Prop} {Qc : Array Value → State → Outcome → State → Prop} {mc ms : Nat} {free : Addr → Prop} {cc : ByteArray} {maxL : Nat} {ret : Option FieldType}
    (hy : plainFor y = true) (hw : ws = Cond.code y cc maxL ret :: ws')
    (body : ∀ p e s m args below meth c s₁, BodyLoose p l y (headSpec ws rm) cc maxL ret e s m args below meth c s₁ → c.maxLocals = maxL → Pc args s →
      W p l e (headSpec ws rm).room s m args below meth c s.heap [] 0 0 (MQ below Qc args s mc ms free) (entryFrame m args maxL)) : Met l y ws rm Pc Qc mc ms free := by
  refine MetFree.of_bodySF (code := cc) (maxLocals := maxL) (ret := ret) hy ?_ ?_
  · intro args s m h hn
    obtain ⟨meth, c, h1, h2, h3, h4, h5, h6, -, -⟩ := Cond.code_spec hn (atoms_spec (ws := ws) h _ (by rw [hw]; exact List.mem_cons_self))
    exact ⟨meth, c, h1, h2, h3, h4, h5, h6⟩
  · intro p e s m args below meth c s₁ B hml hP _
    have hh0 : s₁.heap = s.heap := by rw [B.state]; rfl
    obtain ⟨t, a1, o, b1, b2, b3⟩ := body p e s m args below meth c s₁ B hml hP s₁ hh0 (Stand.of_body B)
    exact ⟨t, o, a1, b1, b2, ⟨b3.1, b3.2⟩⟩
theorem zargs_mem : ∀ (vs : List Value) (n i : Nat) (v : Value), (∀ w ∈ vs, w.category = 1) → vs[i]? = some v → (n + i, v) ∈ lv_args n vs
  | [], n, i, v, _, h => by simp at h
  | w :: vs, n, i, v, hc, h => by
    have h1 := List.forall_mem_cons.mp hc
    unfold lv_args
    cases i with
    | zero =>
      rw [List.getElem?_cons_zero] at h
      cases h
      exact List.mem_cons_self
    | succ i =>
      rw [List.getElem?_cons_succ] at h
      refine List.mem_cons_of_mem _ ?_
      rw [if_neg (by rw [h1.1]; decide), show n + (i + 1) = (n + 1) + i by omega]
      exact zargs_mem vs (n + 1) i v h1.2 h
theorem zsl_len : ∀ (vs : List Value), (∀ w ∈ vs, w.category = 1) → (lg_sl vs).length = vs.length
  | [], _ => rfl
  | w :: vs, hc => by
    have h1 := List.forall_mem_cons.mp hc
    have ih := zsl_len vs h1.2
    unfold lg_sl at ih ⊢
    rw [List.flatMap_cons, if_neg (by rw [h1.1]; decide), List.length_append, ih]
    simp [Nat.add_comm]
theorem zini_at {y i : Nat} {as : List zV} {v : zV} (h : (zini y as)[i]? = some (some v)) : as[i]? = some v := by
  unfold zini at h
  by_cases hi : i < as.length
  · rw [List.getElem?_append_left (by simpa using hi), List.getElem?_map] at h
    cases ha : as[i]? with
    | none => rw [ha] at h; cases h
    | some w => rw [ha] at h; simpa using h
  · rw [List.getElem?_append_right (by simpa using hi)] at h
    have := List.mem_of_getElem? h
    rw [List.mem_replicate] at this
    cases this.2
theorem zentry {Z : zW} {y : Nat} {as : List zV} (hf : Z.2.2.2.2.2.category = 1) (h : as.length ≤ zMl y) : lv_has ((lg_sl (as.map (zval Z)) ++ List.replicate (zMl y - (lg_sl (as.map (zval Z))).length) Slot.unset).toArray) (zMl y) (zlv Z (zini y as)) := by
  have hc : ∀ w ∈ as.map (zval Z), w.category = 1 := by
    intro w hw
    obtain ⟨v, -, rfl⟩ := List.mem_map.mp hw
    exact zval_cat hf v
  have h1 := lv_entry (as.map (zval Z)) (n := zMl y) (by rw [zsl_len _ hc]; simpa using h)
  refine ⟨h1.1, h1.2.1, fun q hq => h1.2.2 q ?_⟩
  obtain ⟨i, w⟩ := q
  obtain ⟨v, hv, rfl⟩ := zlv_mem.mp hq
  have := zargs_mem (as.map (zval Z)) 0 i (zval Z v) hc (by rw [List.getElem?_map, zini_at hv]; rfl)
  rwa [Nat.zero_add] at this
/-- a method's words -/
theorem zword {y : Nat} (h : y < 255) : Cond.code (zNm y) (zBy y) (zMl y) (zRy y) ∈ wsL_law ∧ (if zSt y then Cond.static (zNm y) else Cond.instanceMethod (zNm y)) ∈ wsL_law ∧ (zSt y = true ∨ (zNm y).name = "<init>" ∨ Cond.selects (zNm y).cls (zNm y) (zNm y) ∈ wsL_law) ∧ Cond.initialized (zNm y).cls ∈ wsL_law ∧ (zNm y).cls = zRs (zOw y) ∧ plainFor (zNm y) = true ∧ ((zNm y).cls ≠ "java/lang/invoke/MethodHandle" ∧ (zNm y).cls ≠ "java/lang/invoke/VarHandle") ∧ (parseMethodDescriptor (zNm y).desc).map (fun q => q.parameters.length + (if zSt y then 0 else 1)) = some (zNa y) ∧ zMl y ≤ 21 ∧ (zSt y = true ∨ (zNm y).name = "<init>" ∨ (zRs (zOw y) = (if zKd y = 61 then "java/lang/String" else (vwCl.getD (zKd y) (RX0, TX0, 5)).1) ∧ (zKd y < 13 ∨ zKd y = 61))) := by
  have hc := zcw_all y h
  unfold zcw at hc
  split at hc
  · simp only [Bool.and_eq_true, decide_eq_true_eq, Bool.or_eq_true, beq_iff_eq, or_assoc] at hc
    obtain ⟨⟨⟨⟨⟨⟨⟨⟨⟨h1, h2⟩, h3⟩, h4⟩, h5⟩, h6⟩, h7⟩, h8⟩, h9⟩, h10⟩ := hc
    refine ⟨List.mem_of_getElem? h1, List.mem_of_getElem? h2, ?_, List.mem_of_getElem? h4, h5, h6, h7, h8, h9, h10⟩
    rcases h3 with h | h | h
    · exact Or.inl h
    · exact Or.inr (Or.inl h)
    · exact Or.inr (Or.inr (List.mem_of_getElem? h))
  · cases hc
theorem zgood : ∀ w ∈ wsL_law, (w.onTables && w.keeps) = true ∨ ∃ ty, w = .arrayClass ty := fun w h => good_of_word (wsL_law_gd w h)
theorem zrtok_nar {t : Option FieldType} {x : Int} (h : zrtok t x = true) : ∃ ty, t = some ty ∧ narrow ty (.int (Int32.ofInt x)) = .int (Int32.ofInt x) := by
  unfold zrtok at h
  split at h
  · exact ⟨_, rfl, rfl⟩
  · have h := of_decide_eq_true h
    refine ⟨_, rfl, ?_⟩
    rcases h with rfl | rfl <;> decide
  · have h := of_decide_eq_true h
    refine ⟨_, rfl, ?_⟩
    have e : Int32.ofInt x = nI x.toNat := by
      rw [show x = (x.toNat : Int) by omega, Int32.ofInt_eq_ofNat]
      rfl
    rw [e]
    exact (pk_charN (by omega)).1
  · have h := of_decide_eq_true h
    refine ⟨_, rfl, ?_⟩
    show Value.int _ = _
    congr 1
    rw [Int32.toInt8_ofInt]
    apply Int32.toInt_inj.mp
    rw [Int8.toInt_toInt32, Int8.toInt_ofInt_of_le (by simpa using h.1) (by simpa using h.2), Int32.toInt_ofInt_of_le (by omega) (by omega)]
  · cases h
set_option maxHeartbeats 1000000 in
/-- a run is a contract -/
theorem zMet (l : Launch) {Z : zW} {A : Nat → Prop} {y d : Nat} {as : List zV} {g g' : zG} {rv : Option zV} (hy : y < 255) (ha : as.length ≤ zMl y) (h : zSo y d 0 (zini y as) [] g rv g') : Met l (zNm y) (Cond.code (zNm y) (zBy y) (zMl y) (zRy y) :: wsL_law) (zrm d) (va_Pc (as.map (zval Z)) (zB Z A g)) (zQc Z A rv g') 0 0 A := by
  obtain ⟨w1, w2, w3, w4, w5, w6, w7, w8, w9, w10⟩ := zword hy
  refine Met.ofWF (cc := zBy y) (maxL := zMl y) (ret := zRy y) w6 rfl ?_
  intro p e s m args below meth c s₁ B hml hv
  obtain ⟨rfl, hP, hK, hD, hE, hS⟩ := hv
  have hts := atoms_spec (ws := Cond.code (zNm y) (zBy y) (zMl y) (zRy y) :: wsL_law) B.pre
  have hown : s.vm.findClass (zRs (zOw y)) = some m.cls := by rw [← w5]; exact findClass_of_methodNamed B.named
  have hC : zC Z A p s m (as.map (zval Z)).toArray c y (g 60) := ⟨B.exec, B.bytes, hml, hown, fun w hw => hts w (List.mem_cons_of_mem _ hw), hK, hE, hS⟩
  rw [lg_entry_eq]
  refine h.2 Z A p l e (zrm d) s m _ below meth c 0 0 _ s.heap [] _ hC ⟨zentry hE.2.2.2 ha, hP, hD, va_S.rf⟩ ⟨Nat.le_refl _, Nat.le_refl _, Nat.le_refl _, Nat.le_refl _⟩ ?_
  intro pc2 lsA2 H2 locs2 hr hP2 hD2 hS2
  have hq : ∀ t : State, t.heap = H2 → s.WarmedH t.vm → zQc Z A rv g' (as.map (zval Z)).toArray s (.returned (rv.map (zval Z))) t := fun t ht _ => ⟨rfl, by rw [ht]; exact hP2, hD2, hS2.F ht⟩
  have hlocks := B.notSynchronized
  have hret := B.returns
  rcases rv with _ | x | r
  · obtain ⟨hd, hk⟩ := hr
    have hn : zRy y = none := by
      unfold zRk at hk
      rw [if_neg (by omega)] at hk
      split at hk
      · assumption
      · cases hk
      · cases hk
      · cases hk
    exact W.vret B.exec B.bytes (by rw [hret, hn]) hq hS2.2.2 hd hlocks
  · obtain ⟨hd, hk⟩ := hr
    obtain ⟨ty, e1, e2⟩ := zrtok_nar hk
    exact W.zret B.exec B.bytes (by rw [hret, e1]) e2 hq hS2.2.2 hd hlocks
  · obtain ⟨hd, hk, h63⟩ := hr
    have hn : ∃ rt, zRy y = some rt ∧ ((∃ n, rt = .object n) ∨ ∃ t, rt = .array t) := by
      unfold zRk at hk
      rw [if_neg (by omega)] at hk
      split at hk
      · cases hk
      · rename_i n hn; exact ⟨_, hn, Or.inl ⟨n, rfl⟩⟩
      · rename_i n hn; exact ⟨_, hn, Or.inr ⟨n, rfl⟩⟩
      · cases hk
    obtain ⟨rt, e1, e2⟩ := hn
    have ev : zval Z (.inr r) = .ref (zad Z r.1 r.2) := zvalR h63
    refine W.aret (v := zval Z (.inr r)) B.exec B.bytes (by rw [hret, e1]) e2 (Or.inr ⟨_, ev⟩) hq hS2.2.2 hd hlocks
