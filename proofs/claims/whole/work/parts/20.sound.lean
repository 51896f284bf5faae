/-! THE SMALL MACHINE IS THE MACHINE: one instruction -/
def zC (Z : zW) (A : Nat → Prop) (p : Program) (s : State) (m : MethodId) (args : Array Value) (c : Code) (y : Nat) (G : Nat → Nat → Int) : Prop :=
  p.tables.exec = Jvm.exec ∧ c.code = zBy y ∧ c.maxLocals = zMl y ∧ s.vm.findClass (zRs (zOw y)) = some m.cls ∧ (∀ w ∈ wsL_law, w.before args s = true) ∧ va_K Z.1 vwCl (zty Z) s ∧ zEnv Z A s s.heap ∧ zScr Z A G s s.heap
def zH (Z : zW) (A : Nat → Prop) (s : State) (y : Nat) (ls : List (Option zV)) (g : zG) (H : Heap) (locs : List Loc) (lsA : Array Slot) : Prop := lv_has lsA (zMl y) (zlv Z ls) ∧ va_P Z.1 vwCl (zws Z g) H ∧ va_D A (zws Z g) ∧ va_S A s.heap H locs
def zVd (ls : List (Option zV)) (st : List zV) (g : zG) : Prop := (∀ (i : Nat) (v : zV), ls[i]? = some (some v) → zok v) ∧ (∀ v ∈ st, zok v) ∧ ∀ k j s, zwr (g k j s) = g k j s
abbrev zQ4 : Type := Nat × List (Option zV) × List zV × zG
def zT (y pc : Nat) (ls : List (Option zV)) (st : List zV) (g : zG) (q : zQ4) : Prop :=
  (zVd q.2.1 q.2.2.1 q.2.2.2 ∧ q.2.1.length = ls.length ∧ q.2.2.2 60 = g 60) ∧
  ∀ (Z : zW) (A : Nat → Prop) (p : Program) (l : Launch) (e : Env) (R : Room) (s : State) (m : MethodId) (args : Array Value) (below : List Frame) (meth : Method) (c : Code) (cells slots : Nat) (Q : State → Prop) (H : Heap) (locs : List Loc) (lsA : Array Slot),
    zC Z A p s m args c y (g 60) → zH Z A s y ls g H locs lsA →
    (∀ (H' : Heap) (locs' : List Loc) (lsA' : Array Slot), zH Z A s y q.2.1 q.2.2.2 H' locs' lsA' → W p l e R s m args below meth c H' locs' cells slots Q (F0 m q.1 lsA' (q.2.2.1.map (zval Z)))) →
    W p l e R s m args below meth c H locs cells slots Q (F0 m pc lsA (st.map (zval Z)))
section SO
variable {y pc p2 k n i : Nat} {ls ls' : List (Option zV)} {st st' : List zV} {g g' : zG} {q : zQ4} {x a b o : Int}
theorem zif {c : Prop} [Decidable c] {α : Type} {x : Option α} {r : α} (h : (if c then x else none) = some r) : c ∧ x = some r := by
  by_cases hc : c
  · rw [if_pos hc] at h; exact ⟨hc, h⟩
  · rw [if_neg hc] at h; cases h
theorem znx_inj (h : znx p2 ls st g = some (.inr (.inl q))) : q = (p2, ls, st, g) := by
  unfold znx at h
  simp only [Option.some.injEq, Sum.inr.injEq, Sum.inl.injEq] at h
  exact h.symm
theorem zT.pure (hv : zVd ls st g) (hs : ∀ v ∈ st', zok v)
    (row : ∀ {Z : zW} {A : Nat → Prop} {p : Program} {l : Launch} {e : Env} {R : Room} {s : State} {m : MethodId} {args : Array Value} {below : List Frame} {meth : Method} {c : Code} {cells slots : Nat} {Q : State → Prop} {H : Heap} {locs : List Loc} {lsA : Array Slot},
      zC Z A p s m args c y (g 60) → zH Z A s y ls g H locs lsA → W p l e R s m args below meth c H locs cells slots Q (F0 m p2 lsA (st'.map (zval Z))) → W p l e R s m args below meth c H locs cells slots Q (F0 m pc lsA (st.map (zval Z)))) : zT y pc ls st g (p2, ls, st', g) :=
  ⟨⟨⟨hv.1, hs, hv.2.2⟩, rfl, rfl⟩, fun _ _ _ _ _ _ _ _ _ _ _ _ _ _ _ H locs lsA hC hH k => row hC hH (k H locs lsA hH)⟩
theorem zT_push (hv : zVd ls st g) (hs : zpush p2 x ls st g = some (.inr (.inl q)))
    (row : ∀ {Z : zW} {A : Nat → Prop} {p : Program} {l : Launch} {e : Env} {R : Room} {s : State} {m : MethodId} {args : Array Value} {below : List Frame} {meth : Method} {c : Code} {cells slots : Nat} {Q : State → Prop} {H : Heap} {locs : List Loc} {lsA : Array Slot},
      zC Z A p s m args c y (g 60) → W p l e R s m args below meth c H locs cells slots Q (F0 m p2 lsA (.int (Int32.ofInt x) :: st.map (zval Z))) → W p l e R s m args below meth c H locs cells slots Q (F0 m pc lsA (st.map (zval Z)))) : zT y pc ls st g q := by
  obtain ⟨hx, hs⟩ := zif hs
  rw [znx_inj hs]
  exact zT.pure hv (List.forall_mem_cons.mpr ⟨hx, hv.2.1⟩) (fun hC _ k => row hC k)
theorem zT_ldI (hv : zVd ls st g) (hs : zld p2 k ls st g true = some (.inr (.inl q)))
    (row : ∀ {Z : zW} {A : Nat → Prop} {p : Program} {l : Launch} {e : Env} {R : Room} {s : State} {m : MethodId} {args : Array Value} {below : List Frame} {meth : Method} {c : Code} {cells slots : Nat} {Q : State → Prop} {H : Heap} {locs : List Loc} {lsA : Array Slot} {x : Int},
      zC Z A p s m args c y (g 60) → lsA[k]? = some (.val (.int (Int32.ofInt x))) → W p l e R s m args below meth c H locs cells slots Q (F0 m p2 lsA (.int (Int32.ofInt x) :: st.map (zval Z))) → W p l e R s m args below meth c H locs cells slots Q (F0 m pc lsA (st.map (zval Z)))) : zT y pc ls st g q := by
  unfold zld at hs
  split at hs
  · rename_i x hx
    obtain ⟨-, hs⟩ := zif hs
    rw [znx_inj hs]
    exact zT.pure hv (List.forall_mem_cons.mpr ⟨hv.1 _ _ hx, hv.2.1⟩) (fun hC hH k => row hC (zlv_at hH.1 hx) k)
  · obtain ⟨⟨h, -⟩, -⟩ := zif hs; cases h
  · cases hs
theorem zT_ldA (hv : zVd ls st g) (hs : zld p2 k ls st g false = some (.inr (.inl q)))
    (row : ∀ {Z : zW} {A : Nat → Prop} {p : Program} {l : Launch} {e : Env} {R : Room} {s : State} {m : MethodId} {args : Array Value} {below : List Frame} {meth : Method} {c : Code} {cells slots : Nat} {Q : State → Prop} {H : Heap} {locs : List Loc} {lsA : Array Slot} {x : Nat},
      zC Z A p s m args c y (g 60) → lsA[k]? = some (.val (.ref x)) → W p l e R s m args below meth c H locs cells slots Q (F0 m p2 lsA (.ref x :: st.map (zval Z))) → W p l e R s m args below meth c H locs cells slots Q (F0 m pc lsA (st.map (zval Z)))) : zT y pc ls st g q := by
  unfold zld at hs
  split at hs
  · obtain ⟨h, -⟩ := zif hs; cases h
  · rename_i r hr
    obtain ⟨⟨-, h63⟩, hs⟩ := zif hs
    rw [znx_inj hs]
    refine zT.pure hv (List.forall_mem_cons.mpr ⟨hv.1 _ _ hr, hv.2.1⟩) (fun {Z} _ _ _ _ _ _ _ _ _ _ _ _ _ _ _ _ _ hC hH k => ?_)
    have e : zval Z (.inr r) = .ref (zad Z r.1 r.2) := by unfold zval; dsimp only; rw [if_neg h63]
    have hl := zlv_at hH.1 hr
    rw [e] at hl
    rw [List.map_cons, e] at k
    exact row hC hl k
  · cases hs
theorem zVd_set (hv : zVd ls st g) {v : zV} (h : zok v) (hs : ∀ w ∈ st', zok w) : zVd (ls.set k (some v)) st' g := by
  refine ⟨fun i w hw => ?_, hs, hv.2.2⟩
  by_cases hi : i = k
  · subst hi
    have hl := (List.getElem?_eq_some_iff.mp hw).1
    rw [List.getElem?_set_self (by simpa using hl)] at hw
    cases hw
    exact h
  · rw [List.getElem?_set_ne (Ne.symm hi)] at hw
    exact hv.1 i w hw
theorem zT_sto {v : zV} {r : List zV} (hv : zVd ls (v :: r) g) (hl : ls.length = zMl y) (hk : k < ls.length)
    (row : ∀ {Z : zW} {A : Nat → Prop} {p : Program} {l : Launch} {e : Env} {R : Room} {s : State} {m : MethodId} {args : Array Value} {below : List Frame} {meth : Method} {c : Code} {cells slots : Nat} {Q : State → Prop} {H : Heap} {locs : List Loc} {lsA : Array Slot},
      zC Z A p s m args c y (g 60) → lv_has lsA (zMl y) (zlv Z ls) → k < zMl y → (∀ lsA' : Array Slot, lv_has lsA' (zMl y) ((k, zval Z v) :: (zlv Z ls).filter (fun q => !(q.1 == k) && !(q.1 + 1 == k && q.2.category == 2))) → W p l e R s m args below meth c H locs cells slots Q (F0 m p2 lsA' (r.map (zval Z)))) → W p l e R s m args below meth c H locs cells slots Q (F0 m pc lsA (zval Z v :: r.map (zval Z)))) : zT y pc ls (v :: r) g (p2, ls.set k (some v), r, g) := by
  have h2 := List.forall_mem_cons.mp hv.2.1
  refine ⟨⟨zVd_set hv h2.1 h2.2, by simp, rfl⟩, fun Z A p l e R s m args below meth c cells slots Q H locs lsA hC hH kk => ?_⟩
  refine row hC hH.1 (by rw [← hl]; exact hk) (fun lsA' h => kk H locs lsA' ⟨zlv_set hC.2.2.2.2.2.2.1.2.2.2 h, hH.2.1, hH.2.2.1, hH.2.2.2⟩)
theorem zT_stoI (hv : zVd ls st g) (hl : ls.length = zMl y) (hs : zsto p2 k ls st g true = some (.inr (.inl q)))
    (row : ∀ {Z : zW} {A : Nat → Prop} {p : Program} {l : Launch} {e : Env} {R : Room} {s : State} {m : MethodId} {args : Array Value} {below : List Frame} {meth : Method} {c : Code} {cells slots : Nat} {Q : State → Prop} {H : Heap} {locs : List Loc} {lsA : Array Slot} {x : Int} {rest : List Value},
      zC Z A p s m args c y (g 60) → lv_has lsA (zMl y) (zlv Z ls) → k < zMl y → (∀ lsA' : Array Slot, lv_has lsA' (zMl y) ((k, .int (Int32.ofInt x)) :: (zlv Z ls).filter (fun q => !(q.1 == k) && !(q.1 + 1 == k && q.2.category == 2))) → W p l e R s m args below meth c H locs cells slots Q (F0 m p2 lsA' rest)) → W p l e R s m args below meth c H locs cells slots Q (F0 m pc lsA (.int (Int32.ofInt x) :: rest))) : zT y pc ls st g q := by
  unfold zsto at hs
  split at hs
  · obtain ⟨⟨-, hk⟩, hs⟩ := zif hs
    rw [znx_inj hs]
    exact zT_sto hv hl hk (fun hC h1 h2 h3 => row hC h1 h2 h3)
  · obtain ⟨⟨h, -⟩, -⟩ := zif hs; cases h
  · cases hs
theorem zT_stoA (hv : zVd ls st g) (hl : ls.length = zMl y) (hs : zsto p2 k ls st g false = some (.inr (.inl q)))
    (row : ∀ {Z : zW} {A : Nat → Prop} {p : Program} {l : Launch} {e : Env} {R : Room} {s : State} {m : MethodId} {args : Array Value} {below : List Frame} {meth : Method} {c : Code} {cells slots : Nat} {Q : State → Prop} {H : Heap} {locs : List Loc} {lsA : Array Slot} {x : Nat} {rest : List Value},
      zC Z A p s m args c y (g 60) → lv_has lsA (zMl y) (zlv Z ls) → k < zMl y → (∀ lsA' : Array Slot, lv_has lsA' (zMl y) ((k, .ref x) :: (zlv Z ls).filter (fun q => !(q.1 == k) && !(q.1 + 1 == k && q.2.category == 2))) → W p l e R s m args below meth c H locs cells slots Q (F0 m p2 lsA' rest)) → W p l e R s m args below meth c H locs cells slots Q (F0 m pc lsA (.ref x :: rest))) : zT y pc ls st g q := by
  unfold zsto at hs
  split at hs
  · obtain ⟨⟨h, -⟩, -⟩ := zif hs; cases h
  · rename_i r rr
    obtain ⟨⟨-, hk, h63⟩, hs⟩ := zif hs
    rw [znx_inj hs]
    refine zT_sto hv hl hk (fun {Z} _ _ _ _ _ _ _ _ _ _ _ _ _ _ _ _ _ hC h1 h2 h3 => ?_)
    have e : zval Z (.inr r) = .ref (zad Z r.1 r.2) := by unfold zval; dsimp only; rw [if_neg h63]
    rw [e] at h3 ⊢
    exact row hC h1 h2 h3
  · cases hs
theorem zT_bin {f : Int → Int → Int} {F : Int32 → Int32 → Int32} (hv : zVd ls st g) (hs : zbin f pc ls st g = some (.inr (.inl q))) (hf : ∀ a b, zwr a = a → zwr b = b → zwr (f a b) = f a b ∧ Int32.ofInt (f a b) = F (Int32.ofInt a) (Int32.ofInt b))
    (row : ∀ {Z : zW} {A : Nat → Prop} {p : Program} {l : Launch} {e : Env} {R : Room} {s : State} {m : MethodId} {args : Array Value} {below : List Frame} {meth : Method} {c : Code} {cells slots : Nat} {Q : State → Prop} {H : Heap} {locs : List Loc} {lsA : Array Slot} {x y' : Int32} {rest : List Value},
      zC Z A p s m args c y (g 60) → W p l e R s m args below meth c H locs cells slots Q (F0 m (pc + 1) lsA (.int (F x y') :: rest)) → W p l e R s m args below meth c H locs cells slots Q (F0 m pc lsA (.int y' :: .int x :: rest))) : zT y pc ls st g q := by
  unfold zbin at hs
  split at hs
  · rename_i b a r
    rw [znx_inj hs]
    have h1 := List.forall_mem_cons.mp hv.2.1
    have h2 := List.forall_mem_cons.mp h1.2
    obtain ⟨f1, f2⟩ := hf a b h2.1 h1.1
    refine zT.pure hv (List.forall_mem_cons.mpr ⟨f1, h2.2⟩) (fun hC _ k => row hC ?_)
    rw [← f2]
    exact k
  · cases hs
theorem zT_div {f : Int → Int → Int} {F : Int32 → Int32 → Int32} (hv : zVd ls st g) (hs : zdivs f pc ls st g = some (.inr (.inl q))) (hf : ∀ a b, zwr a = a → zwr b = b → b ≠ 0 → zwr (f a b) = f a b ∧ Int32.ofInt (f a b) = F (Int32.ofInt a) (Int32.ofInt b))
    (row : ∀ {Z : zW} {A : Nat → Prop} {p : Program} {l : Launch} {e : Env} {R : Room} {s : State} {m : MethodId} {args : Array Value} {below : List Frame} {meth : Method} {c : Code} {cells slots : Nat} {Q : State → Prop} {H : Heap} {locs : List Loc} {lsA : Array Slot} {x y' : Int32} {rest : List Value},
      zC Z A p s m args c y (g 60) → ¬ y' = 0 → W p l e R s m args below meth c H locs cells slots Q (F0 m (pc + 1) lsA (.int (F x y') :: rest)) → W p l e R s m args below meth c H locs cells slots Q (F0 m pc lsA (.int y' :: .int x :: rest))) : zT y pc ls st g q := by
  unfold zdivs at hs
  split at hs
  · rename_i b a r
    by_cases hb : b = 0
    · rw [if_pos hb] at hs; cases hs
    · rw [if_neg hb] at hs
      rw [znx_inj hs]
      have h1 := List.forall_mem_cons.mp hv.2.1
      have h2 := List.forall_mem_cons.mp h1.2
      obtain ⟨f1, f2⟩ := hf a b h2.1 h1.1 hb
      refine zT.pure hv (List.forall_mem_cons.mpr ⟨f1, h2.2⟩) (fun hC _ k => row hC (fun z => hb ((zI_eq h1.1 zwr_0).mp (by rw [z, zI_0]))) ?_)
      rw [← f2]
      exact k
  · cases hs
theorem zjp_spec {t : Nat} (h : zjp pc o = some t) : (pc : Int) + o = (t : Int) := by
  unfold zjp at h
  obtain ⟨h1, h2⟩ := zif h
  cases h2
  omega
theorem zT_go (hv : zVd ls st g) (hs' : ∀ v ∈ st', zok v) (hs : zgo pc o ls st' g = some (.inr (.inl q)))
    (row : ∀ {t : Nat} {Z : zW} {A : Nat → Prop} {p : Program} {l : Launch} {e : Env} {R : Room} {s : State} {m : MethodId} {args : Array Value} {below : List Frame} {meth : Method} {c : Code} {cells slots : Nat} {Q : State → Prop} {H : Heap} {locs : List Loc} {lsA : Array Slot}, (pc : Int) + o = (t : Int) →
      zC Z A p s m args c y (g 60) → W p l e R s m args below meth c H locs cells slots Q (F0 m t lsA (st'.map (zval Z))) → W p l e R s m args below meth c H locs cells slots Q (F0 m pc lsA (st.map (zval Z)))) : zT y pc ls st g q := by
  unfold zgo at hs
  split at hs
  · cases hs
  · rename_i t ht
    rw [znx_inj hs]
    exact zT.pure hv hs' (fun hC _ k => row (zjp_spec ht) hC k)
theorem zT_br {P : Prop} {bb : Bool} (hb : bb = true ↔ P) (hv : zVd ls st g) (hs' : ∀ v ∈ st', zok v) (hs : zbr bb pc o ls st' g = some (.inr (.inl q)))
    (row : ∀ {Z : zW} {A : Nat → Prop} {p : Program} {l : Launch} {e : Env} {R : Room} {s : State} {m : MethodId} {args : Array Value} {below : List Frame} {meth : Method} {c : Code} {cells slots : Nat} {Q : State → Prop} {H : Heap} {locs : List Loc} {lsA : Array Slot} {t : Nat}, (pc : Int) + o = (t : Int) →
      zC Z A p s m args c y (g 60) → (P → W p l e R s m args below meth c H locs cells slots Q (F0 m t lsA (st'.map (zval Z)))) → (¬ P → W p l e R s m args below meth c H locs cells slots Q (F0 m (pc + 3) lsA (st'.map (zval Z)))) → W p l e R s m args below meth c H locs cells slots Q (F0 m pc lsA (st.map (zval Z)))) : zT y pc ls st g q := by
  unfold zbr at hs
  split at hs
  · have hp : P := hb.mp rfl
    exact zT_go hv hs' hs (fun ht hC k => row ht hC (fun _ => k) (fun h => absurd hp h))
  · have hp : ¬ P := fun h => by have := hb.mpr h; cases this
    split at hs
    · cases hs
    · rename_i t ht
      rw [znx_inj hs]
      exact zT.pure hv hs' (fun hC _ k => row (zjp_spec ht) hC (fun h => absurd h hp) (fun _ => k))
end SO
