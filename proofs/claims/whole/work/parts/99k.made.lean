/-! CONSTRUCTORS: the steps that they share -/
def yNl : List (String × Nat × MethodName) := [(RX11, 9, yX5_init), (RX5, 11, yX8_init), (RX5, 20, yX6_init), (RX5, 27, yX1_init), (RX5, 34, yX0_init), (RX5, 41, yX3_init), (RX2, 27, yX1_init), (RX11, 28, yX10_init), (RX10, 20, yX1_init), (RX10, 27, yX6_init), (RX11, 35, yX7_init), (RX11, 42, yX4_init), (RX4, 11, yX9_init), (RX4, 20, yX3_init)]
def yE (U : State) : Prop := (∀ w ∈ yNl, va_Nw (.methodLinkNest w.1 w.2.1 w.2.2 RX11) U) ∧ va_AO RX1 U
theorem yE.warm {s U : State} (hW : s.WarmedH U.vm) (h : yE s) : yE U := ⟨fun w hw => va_Nw.warmM hW (h.1 w hw), va_AO.moved hW.alike h.2⟩
theorem yE.same {u U : State} (e : u.vm = U.vm) (h : yE u) : yE U := ⟨fun w hw => va_Nw.same rfl e (h.1 w hw), va_AO.moved (by rw [e]; exact Vm.Alike.refl _) h.2⟩
abbrev yI3 : Type := ClassId × ClassId × ClassId
abbrev yT (c3 : yI3) : List (ClassId × FieldType) := [(c3.1, .int), (c3.2.1, .byte), (c3.2.2, .object RX1)]
abbrev yO (k h : Nat) (fs : List Value) : va_W := [(h, .inr (k, fs))]
/-- an array of n zeros -/
abbrev yZ (c : ClassId) (q n : Nat) : va_W := [(q, .inl (c, n, .inl (fun _ => 0)))]
def yPre (D : va_G) (c3 : yI3) (k h sz : Nat) (fs : List Value) (U : State) : Prop := U.heap.size = sz ∧ va_P D vwCl (yO k h fs) U.heap ∧ va_K D vwCl (yT c3) U ∧ va_D (fun _ => True) (yO k h fs) ∧ yE U
abbrev yrm (d mc ms : Nat) : Room := { frames := d, cells := mc, slots := ms, locals := d * 40 }
/-- what a constructor comes to: the cells w of some new addresses u -/
def yMk (l : Launch) (y : MethodName) (b : ByteArray) (ml k : Nat) (fs : List Value) {S : Type} (w : yI3 → Nat → S → va_W) (d mc ms : Nat) : Prop :=
  ∀ (D : va_G) (c3 : yI3) (h sz : Nat), Met l y (Cond.code y b ml none :: wsL_law) (yrm d mc ms) (va_Pc [.ref h] (yPre D c3 k h sz fs)) (va_Qv (fun _ : S => True) (fun u t => va_P D vwCl (w c3 h u) t.heap ∧ va_D (va_A (yO k h fs) sz) (w c3 h u)) (va_A (yO k h fs) sz)) mc ms (va_A (yO k h fs) sz)
def yC (D : va_G) (c3 : yI3) (p : Program) (s : State) (m : MethodId) (args : Array Value) (c : Code) (b : ByteArray) (ml : Nat) (own : String) : Prop :=
  p.tables.exec = Jvm.exec ∧ c.code = b ∧ c.maxLocals = ml ∧ s.vm.findClass own = some m.cls ∧ (∀ w ∈ wsL_law, w.before args s = true) ∧ va_K D vwCl (yT c3) s ∧ yE s
theorem yMk.of {l : Launch} {y : MethodName} {b : ByteArray} {ml k : Nat} {fs : List Value} {S : Type} {w : yI3 → Nat → S → va_W} {d mc ms : Nat} (hy : plainFor y = true) (hn : y.name = "<init>") (hml : 1 ≤ ml)
    (body : ∀ (p : Program) (e : Env) (s : State) (m : MethodId) (below : List Frame) (meth : Method) (c : Code) (D : va_G) (c3 : yI3) (h : Nat) (A : Nat → Prop) (Q : State → Prop) (ls : Array Slot), yC D c3 p s m #[.ref h] c b ml y.cls → meth.name = "<init>" → (∀ q : Nat, s.heap.size ≤ q → A q) → va_P D vwCl (yO k h fs) s.heap → va_D A (yO k h fs) → va_S A s.heap s.heap [] → lv_has ls ml [(0, .ref h)] →
      (∀ (u : S) (pc2 : Nat) (ls2 : Array Slot) (H2 : Heap) (locs2 : List Loc), decode b pc2 = .ok (.return_, 1) → va_P D vwCl (w c3 h u) H2 → va_D A (w c3 h u) → va_S A s.heap H2 locs2 → W p l e (yrm d mc ms) s m #[.ref h] below meth c H2 locs2 mc ms Q (F0 m pc2 ls2 [])) →
      W p l e (yrm d mc ms) s m #[.ref h] below meth c s.heap [] 0 0 Q (F0 m 0 ls [])) : yMk l y b ml k fs w d mc ms := by
  intro D c3 h sz
  refine Met.ofWF (cc := b) (maxL := ml) (ret := none) hy rfl ?_
  intro p e s m args below meth c s₁ B hml2 hv
  obtain ⟨rfl, rfl, hP, hK, hD0, hE⟩ := hv
  have hts := atoms_spec (ws := Cond.code y b ml none :: wsL_law) B.pre
  have hown : s.vm.findClass y.cls = some m.cls := findClass_of_methodNamed B.named
  have hin : meth.name = "<init>" := ((name_of_methodNamed B.named B.method).1).trans hn
  have hlocks := B.notSynchronized
  have hl := lv_entry ([.ref h]) (n := ml) hml
  rw [lg_entry_eq]
  refine body p e s m below meth c D c3 h (va_A (yO k h fs) s.heap.size) _ _ ⟨B.exec, B.bytes, hml2, hown, fun w hw => hts w (List.mem_cons_of_mem _ hw), hK, hE⟩ hin (fun q hq => Or.inr hq) hP hD0.self va_S.rf hl ?_
  intro u pc2 ls2 H2 locs2 hd hP2 hD2 hS2
  exact W.vret B.exec B.bytes B.returns (fun t ht hW => ⟨⟨u, rfl, trivial, by rw [ht]; exact hP2, hD2⟩, hS2.F ht⟩) hS2.2.2 hd hlocks
theorem va_nd_of : ∀ {l : List Nat}, l.Nodup → va_nd l = true
  | [], _ => rfl
  | a :: l, h => by
    obtain ⟨h1, h2⟩ := List.nodup_cons.mp h
    simp only [va_nd, Bool.and_eq_true, decide_eq_true_eq]
    exact ⟨h1, va_nd_of h2⟩
section YS
variable {p : Program} {l : Launch} {e : Env} {R : Room} {s : State} {m : MethodId} {args : Array Value} {below : List Frame} {meth : Method} {c : Code} {H : Heap} {locs : List Loc} {cells slots : Nat} {Q : State → Prop} {pc : Nat} {ls : Array Slot} {rest : List Value}
variable {D : va_G} {c3 : yI3} {b : ByteArray} {ml : Nat} {own : String} {A : Nat → Prop} {ws : va_W}
theorem va_RA.eq {U : State} {a b : ClassId} {ty : FieldType} (h1 : va_RA U a ty) (h2 : va_RA U b ty) : a = b := by
  cases ty with
  | object C =>
    obtain ⟨_, _, -, -, -, e1⟩ := h1
    obtain ⟨_, _, -, -, -, e2⟩ := h2
    rw [e1] at e2
    exact Option.some.inj e2
  | _ =>
    have e1 : U.vm.findClass _ = some a := h1
    have e2 : U.vm.findClass _ = some b := h2
    rw [e1] at e2
    exact Option.some.inj e2
theorem va_K.last {D : va_G} {cl : List vw_C} {tys : List (ClassId × FieldType)} {q : ClassId × FieldType} {U : State} (h : va_K D cl (tys ++ [q]) U) : va_RA U q.1 q.2 := (h.2 tys.length q (by simp)).2
theorem y_newi (C : yC D c3 p s m args c b ml own) (hP : va_P D vwCl ws H) (hD : va_D A ws) (hS : va_S A s.heap H locs) (hA : ∀ q : Nat, s.heap.size ≤ q → A q) {n : Int32} (N : Nat) (hn : ¬ n < 0) (hN : n.toNatClampNeg = N) (hb : N ≤ 2000) (hc : cells + 1 ≤ R.cells) (hs : slots + N ≤ R.slots) (hdg : decode b pc = .ok (.newarray .int, 2))
    (kk : ∀ (q : Nat) (H1 : Heap), va_P D vwCl (ws ++ yZ c3.1 q N) H1 → va_D A (ws ++ yZ c3.1 q N) → va_S A s.heap H1 locs → W p l e R s m args below meth c H1 locs (cells + 1) (slots + N) Q (F0 m (pc + 2) ls (.ref q :: rest))) : W p l e R s m args below meth c H locs cells slots Q (F0 m pc ls (.int n :: rest)) := by
  refine va_newa (atype := .int) (ty := .int) (a0 := (N, .inl (fun _ => 0))) C.1 C.2.1 (C.2.2.2.2.1 (.arrayClass .int) (List.mem_of_getElem? (i := 60) (by decide +kernel))) rfl C.2.2.2.2.2.1 hP hD hS hA (fun cA => rfl) hn hN (by show N * 4 ≤ 536870912; omega) hc hs hdg (fun q cA H1 hK hP hD hS => ?_)
  have e : cA = c3.1 := va_RA.eq hK.last (C.2.2.2.2.2.1.2 0 _ rfl).2
  subst e
  exact kk q H1 hP hD hS
theorem y_newb (C : yC D c3 p s m args c b ml own) (hP : va_P D vwCl ws H) (hD : va_D A ws) (hS : va_S A s.heap H locs) (hA : ∀ q : Nat, s.heap.size ≤ q → A q) {n : Int32} (N : Nat) (hn : ¬ n < 0) (hN : n.toNatClampNeg = N) (hb : N ≤ 2000) (hc : cells + 1 ≤ R.cells) (hs : slots + N ≤ R.slots) (hdg : decode b pc = .ok (.newarray .byte, 2))
    (kk : ∀ (q : Nat) (H1 : Heap), va_P D vwCl (ws ++ yZ c3.2.1 q N) H1 → va_D A (ws ++ yZ c3.2.1 q N) → va_S A s.heap H1 locs → W p l e R s m args below meth c H1 locs (cells + 1) (slots + N) Q (F0 m (pc + 2) ls (.ref q :: rest))) : W p l e R s m args below meth c H locs cells slots Q (F0 m pc ls (.int n :: rest)) := by
  refine va_newa (atype := .byte) (ty := .byte) (a0 := (N, .inl (fun _ => 0))) C.1 C.2.1 (C.2.2.2.2.1 (.arrayClass .byte) (List.mem_of_getElem? (i := 131) (by decide +kernel))) rfl C.2.2.2.2.2.1 hP hD hS hA (fun cA => rfl) hn hN (by show N * 1 ≤ 536870912; omega) hc hs hdg (fun q cA H1 hK hP hD hS => ?_)
  have e : cA = c3.2.1 := va_RA.eq hK.last (C.2.2.2.2.2.1.2 1 _ rfl).2
  subst e
  exact kk q H1 hP hD hS
theorem y_newq {index : Nat} (C : yC D c3 p s m args c b ml own) (hP : va_P D vwCl ws H) (hD : va_D A ws) (hS : va_S A s.heap H locs) (hA : ∀ q : Nat, s.heap.size ≤ q → A q) (hcl : Cond.classLink own index RX1 ∈ wsL_law) {n : Int32} (N : Nat) (hn : ¬ n < 0) (hN : n.toNatClampNeg = N) (hb : N ≤ 2000) (hc : cells + 1 ≤ R.cells) (hs : slots + N ≤ R.slots) (hdg : decode b pc = .ok (.anewarray index, 3))
    (kk : ∀ (q : Nat) (H1 : Heap), va_P D vwCl (ws ++ [(q, .inl (c3.2.2, N, .inr (.inr (.inr (.inr (fun _ => none))))))]) H1 → va_D A (ws ++ [(q, .inl (c3.2.2, N, .inr (.inr (.inr (.inr (fun _ => none))))))]) → va_S A s.heap H1 locs → W p l e R s m args below meth c H1 locs (cells + 1) (slots + N) Q (F0 m (pc + 3) ls (.ref q :: rest))) : W p l e R s m args below meth c H locs cells slots Q (F0 m pc ls (.int n :: rest)) := by
  refine va_newq C.1 C.2.1 C.2.2.2.1 (C.2.2.2.2.1 _ hcl) C.2.2.2.2.2.2.2 C.2.2.2.2.2.1 hP hD hS hA hn hN (by omega) hc hs hdg (fun q cA H1 hK hP hD hS => ?_)
  have e : cA = c3.2.2 := va_RA.eq hK.last (C.2.2.2.2.2.1.2 2 _ rfl).2
  subst e
  exact kk q H1 hP hD hS
/-- the last cell is a new object; its constructor runs -/
theorem y_run {y : MethodName} {b' : ByteArray} {ml' k q : Nat} {fs : List Value} {S : Type} {w : yI3 → Nat → S → va_W} {d mc ms : Nat} (C : yC D c3 p s m args c b ml own) (hM : yMk l y b' ml' k fs w d mc ms) (hP : va_P D vwCl (ws ++ yO k q fs) H) (hD : va_D A (ws ++ yO k q fs)) (hS : va_S A s.heap H locs) (hA : ∀ q : Nat, s.heap.size ≤ q → A q) (hls : ls.size = ml)
    (hr : ∀ (hp : PreS s H (va_Pc [.ref q] (yPre D c3 k q H.size fs)) [.ref q]), va_Run p l e R s m args below meth c H locs cells slots mc ms (F0 m pc ls (.ref q :: rest)) rest (va_Qv (fun _ : S => True) (fun u t => va_P D vwCl (w c3 q u) t.heap ∧ va_D (va_A (yO k q fs) H.size) (w c3 q u)) (va_A (yO k q fs) H.size) [.ref q].toArray) (va_A (yO k q fs) H.size))
    (kk : ∀ (u : S) (H1 : Heap) (locs1 : List Loc), va_P D vwCl (ws ++ w c3 q u) H1 → va_D A (ws ++ w c3 q u) → va_S A s.heap H1 locs1 → W p l e R s m args below meth c H1 locs1 (cells + mc) (slots + ms) Q (F0 m (pc + 3) ls rest)) : W p l e R s m args below meth c H locs cells slots Q (F0 m pc ls (.ref q :: rest)) := by
  have isC : [ws.length].map (fun i => (ws ++ yO k q fs)[i]?) = (yO k q fs).map some := by simp
  have isR : (List.range ws.length).map (fun i => (ws ++ yO k q fs)[i]?) = ws.map some := by
    apply List.ext_getElem?
    intro n
    rw [List.getElem?_map, List.getElem?_map]
    by_cases hn : n < ws.length
    · rw [List.getElem?_range hn, Option.map_some, List.getElem?_append_left hn, List.getElem?_eq_getElem hn]
      rfl
    · rw [List.getElem?_eq_none (by simpa using hn), List.getElem?_eq_none (by simpa using hn)]
      rfl
  have hPc : va_P D vwCl (yO k q fs) H := hP.sub [ws.length] (by simp)
  have hDc : va_D A (yO k q fs) := hD.sub [ws.length] (by simp [va_nd]) isC
  have hFc := va_free (wc := yO k q fs) hD hS hA [ws.length] isC
  refine va_callv (hr ⟨fun a U g mk z => ?_, fun U hU hW => ⟨rfl, by rw [hU], by rw [hU]; exact hPc, va_K.moved hW.alike C.2.2.2.2.2.1, hDc.weaken (fun _ _ _ _ => trivial), C.2.2.2.2.2.2.warm hW⟩⟩) hS (fun q _ h => hFc q h) hFc (fun u t H1 locs1 ht hvm hw hB hz1 hk1 hS1 => ?_)
  · obtain ⟨q0, q1, qP, qK, qD, qE⟩ := z
    exact ⟨q0, q1, qP, va_K.moved (u := U) (U := U.calling g mk a) (Vm.Alike.refl U.vm) qK, qD, yE.same (u := U) (U := U.calling g mk a) rfl qE⟩
  · obtain ⟨hP1, hD1⟩ := hB
    rw [ht] at hP1
    obtain ⟨hP2, hD2⟩ := va_join (wr := ws) (w1 := w c3 q u) hP hD [ws.length] (List.range ws.length) isC isR (va_nd_of List.nodup_range) (fun i hi h => Nat.ne_of_lt (List.mem_range.mp hi) (List.mem_singleton.mp h)) hk1 hFc hP1 hD1
    exact kk u H1 locs1 hP2 hD2 hS1
end YS
section YN
variable {p : Program} {l : Launch} {e : Env} {R : Room} {s : State} {m : MethodId} {args : Array Value} {below : List Frame} {meth : Method} {c : Code} {H : Heap} {locs : List Loc} {cells slots : Nat} {Q : State → Prop} {pc : Nat} {ls : Array Slot} {rest : List Value}
variable {D : va_G} {c3 : yI3} {b : ByteArray} {ml : Nat} {own : String} {A : Nat → Prop} {ws : va_W}
variable {y : MethodName} {b' : ByteArray} {ml' k index q : Nat} {fs : List Value} {S : Type} {w : yI3 → Nat → S → va_W} {d mc ms : Nat}
/-- the words of a constructor -/
def yWd (y : MethodName) (b : ByteArray) (ml : Nat) : Prop := Cond.code y b ml none ∈ wsL_law ∧ Cond.instanceMethod y ∈ wsL_law ∧ Cond.initialized y.cls ∈ wsL_law ∧ y.name = "<init>" ∧ y.cls ≠ "java/lang/invoke/MethodHandle" ∧ y.cls ≠ "java/lang/invoke/VarHandle" ∧ (parseMethodDescriptor y.desc).map (fun d => d.parameters.length) = some 0
theorem yWd.good (h : yWd y b' ml') : GoodIn wsL_law (Cond.code y b' ml' none :: wsL_law) := by
  intro w hw
  rcases List.mem_cons.mp hw with rfl | hw
  · exact ⟨h.1, zgood _ h.1⟩
  · exact ⟨hw, zgood _ hw⟩
theorem y_initN (C : yC D c3 p s m args c b ml own) (hM : yMk l y b' ml' k fs w d mc ms) (hP : va_P D vwCl (ws ++ yO k q fs) H) (hD : va_D A (ws ++ yO k q fs)) (hS : va_S A s.heap H locs) (hA : ∀ q : Nat, s.heap.size ≤ q → A q) (hls : ls.size = ml)
    (hw : yWd y b' ml') (hnest : (own, index, y) ∈ yNl) (hR : d + 1 ≤ R.frames ∧ 8 + (ml' + 11) + d * 40 ≤ R.locals) (hWr : (rest.map fun v => v.category).sum ≤ 8) (hdg : decode b pc = .ok (.invokespecial index, 3)) (hf : cells + mc ≤ R.cells ∧ slots + ms ≤ R.slots)
    (kk : ∀ (u : S) (H1 : Heap) (locs1 : List Loc), va_P D vwCl (ws ++ w c3 q u) H1 → va_D A (ws ++ w c3 q u) → va_S A s.heap H1 locs1 → W p l e R s m args below meth c H1 locs1 (cells + mc) (slots + ms) Q (F0 m (pc + 3) ls rest)) : W p l e R s m args below meth c H locs cells slots Q (F0 m pc ls (.ref q :: rest)) := by
  have hts := C.2.2.2.2.1
  refine y_run C hM hP hD hS hA hls (fun hp => va_runIN (As := []) (rest := rest) (b := q) ⟨C.1, C.2.1, C.2.2.1, C.2.2.2.1, hts⟩ (hM D c3 q H.size) ⟨va_cnB 0 hts hw.good rfl rfl rfl (C.2.2.2.2.2.2.1 _ hnest) (hts _ hw.2.2.1) hw.2.2.2.2 hR, hw.2.2.2.1, hts _ hw.2.1⟩ hp rfl rfl hls rfl (lv_room hWr) hdg hf) kk
theorem y_initP (C : yC D c3 p s m args c b ml own) (hM : yMk l y b' ml' k fs w d mc ms) (hP : va_P D vwCl (ws ++ yO k q fs) H) (hD : va_D A (ws ++ yO k q fs)) (hS : va_S A s.heap H locs) (hA : ∀ q : Nat, s.heap.size ≤ q → A q) (hls : ls.size = ml)
    (hw : yWd y b' ml') (hlink : Cond.methodLink own index y ∈ wsL_law) (hR : d + 1 ≤ R.frames ∧ 8 + (ml' + 11) + d * 40 ≤ R.locals) (hWr : (rest.map fun v => v.category).sum ≤ 8) (hdg : decode b pc = .ok (.invokespecial index, 3)) (hf : cells + mc ≤ R.cells ∧ slots + ms ≤ R.slots)
    (kk : ∀ (u : S) (H1 : Heap) (locs1 : List Loc), va_P D vwCl (ws ++ w c3 q u) H1 → va_D A (ws ++ w c3 q u) → va_S A s.heap H1 locs1 → W p l e R s m args below meth c H1 locs1 (cells + mc) (slots + ms) Q (F0 m (pc + 3) ls rest)) : W p l e R s m args below meth c H locs cells slots Q (F0 m pc ls (.ref q :: rest)) := by
  have hts := C.2.2.2.2.1
  refine y_run C hM hP hD hS hA hls (fun hp => va_runI (As := []) (rest := rest) (b := q) ⟨C.1, C.2.1, C.2.2.1, C.2.2.2.1, hts⟩ (hM D c3 q H.size) ⟨callB_of 0 hts hw.good rfl rfl rfl (hts _ hw.2.2.1) (hts _ hlink) hw.2.2.2.2 hR, hw.2.2.2.1, hts _ hw.2.1⟩ hp rfl rfl hls rfl (lv_room hWr) hdg hf) kk
end YN
