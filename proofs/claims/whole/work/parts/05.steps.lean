/-! THE SMALL MACHINE: an equation an instruction -/
def zbI (o : Option (Option zV × zG)) (k : Int → zG → Option (Option zV × zG)) : Option (Option zV × zG) := match o with
  | some (some (.inl r), g') => k r g'
  | _ => none
def zbV (o : Option (Option zV × zG)) (k : zG → Option (Option zV × zG)) : Option (Option zV × zG) := match o with
  | some (none, g') => k g'
  | _ => none
def zbR (o : Option (Option zV × zG)) (k : Nat × Nat → zG → Option (Option zV × zG)) : Option (Option zV × zG) := match o with
  | some (some (.inr r), g') => k r g'
  | _ => none
theorem zbI_some (r : Int) (g : zG) (k : Int → zG → Option (Option zV × zG)) : zbI (some (some (.inl r), g)) k = k r g := rfl
theorem zbV_some (g : zG) (k : zG → Option (Option zV × zG)) : zbV (some (none, g)) k = k g := rfl
theorem zbR_some (r : Nat × Nat) (g : zG) (k : Nat × Nat → zG → Option (Option zV × zG)) : zbR (some (some (.inr r), g)) k = k r g := rfl
section ST
variable {d y pc k n c s tk off j i t kd : Nat} {ls : List (Option zV)} {st r : List zV} {g : zG} {x a b v o : Int} {I : Instr} {q : Nat × Nat}
theorem st_of (h : decode (zBy y) pc = .ok (I, n)) : Ev d y pc ls st g = zfin d y (zex y pc I n ls st g) ls g := by rw [Ev_step, zstep, h]
theorem st_nx {p2 : Nat} {ls2 : List (Option zV)} {st2 : List zV} {g2 : zG} (h : decode (zBy y) pc = .ok (I, n)) (e : zex y pc I n ls st g = znx p2 ls2 st2 g2) : Ev d y pc ls st g = Ev d y p2 ls2 st2 g2 := by rw [st_of h, e]; rfl
theorem st_iconst (h : decode (zBy y) pc = .ok (.iconst x, 1)) (e : zwr x = x) : Ev d y pc ls st g = Ev d y (pc + 1) ls (.inl x :: st) g := st_nx h (by simp [zex, zpush, e])
theorem st_bipush (h : decode (zBy y) pc = .ok (.bipush x, 2)) (e : (Int8.ofInt x).toInt32 = Int32.ofInt x ∧ zwr x = x) : Ev d y pc ls st g = Ev d y (pc + 2) ls (.inl x :: st) g := st_nx h (by simp [zex, zpush, e.1, e.2])
theorem st_sipush (h : decode (zBy y) pc = .ok (.sipush x, 3)) (e : (Int16.ofInt x).toInt32 = Int32.ofInt x ∧ zwr x = x) : Ev d y pc ls st g = Ev d y (pc + 3) ls (.inl x :: st) g := st_nx h (by simp [zex, zpush, e.1, e.2])
theorem st_ldc (h : decode (zBy y) pc = .ok (.ldc i, 2)) (e : zLk zLc (zOw y) i = some x ∧ zwr x = x) : Ev d y pc ls st g = Ev d y (pc + 2) ls (.inl x :: st) g := st_nx h (by simp [zex, zldc, zpush, e.1, e.2])
theorem st_ldc_w (h : decode (zBy y) pc = .ok (.ldc_w i, 3)) (e : zLk zLc (zOw y) i = some x ∧ zwr x = x) : Ev d y pc ls st g = Ev d y (pc + 3) ls (.inl x :: st) g := st_nx h (by simp [zex, zldc, zpush, e.1, e.2])
theorem st_ldcS (h : decode (zBy y) pc = .ok (.ldc i, 2)) (e : zLk zLc (zOw y) i = none ∧ zLk zLs (zOw y) i = some j ∧ j < 25) : Ev d y pc ls st g = Ev d y (pc + 2) ls (.inr (61, j) :: st) g := st_nx h (by simp [zex, zldc, e.1, e.2.1, e.2.2])
theorem st_iload (h : decode (zBy y) pc = .ok (.iload k, 2)) (e : ls[k]? = some (some (.inl x))) : Ev d y pc ls st g = Ev d y (pc + 2) ls (.inl x :: st) g := st_nx h (by simp [zex, zld, e])
theorem st_iload_n {k : Fin 4} (h : decode (zBy y) pc = .ok (.iload_n k, 1)) (e : ls[k.val]? = some (some (.inl x))) : Ev d y pc ls st g = Ev d y (pc + 1) ls (.inl x :: st) g := st_nx h (by simp only [zex, zld, e]; simp)
theorem st_aload (h : decode (zBy y) pc = .ok (.aload k, 2)) (e : ls[k]? = some (some (.inr q))) (e2 : q.1 ≠ 63) : Ev d y pc ls st g = Ev d y (pc + 2) ls (.inr q :: st) g := st_nx h (by simp [zex, zld, e, e2])
theorem st_aload_n {k : Fin 4} (h : decode (zBy y) pc = .ok (.aload_n k, 1)) (e : ls[k.val]? = some (some (.inr q))) (e2 : q.1 ≠ 63) : Ev d y pc ls st g = Ev d y (pc + 1) ls (.inr q :: st) g := st_nx h (by simp only [zex, zld, e]; simp [e2])
theorem st_istore (h : decode (zBy y) pc = .ok (.istore k, 2)) (e : k < ls.length) : Ev d y pc ls (.inl x :: r) g = Ev d y (pc + 2) (ls.set k (some (.inl x))) r g := st_nx h (by simp [zex, zsto, e])
theorem st_istore_n {k : Fin 4} (h : decode (zBy y) pc = .ok (.istore_n k, 1)) (e : k.val < ls.length) : Ev d y pc ls (.inl x :: r) g = Ev d y (pc + 1) (ls.set k (some (.inl x))) r g := st_nx h (by simp [zex, zsto, e])
theorem st_astore (h : decode (zBy y) pc = .ok (.astore k, 2)) (e : k < ls.length) (e2 : q.1 ≠ 63) : Ev d y pc ls (.inr q :: r) g = Ev d y (pc + 2) (ls.set k (some (.inr q))) r g := st_nx h (by simp [zex, zsto, e, e2])
theorem st_astore_n {k : Fin 4} (h : decode (zBy y) pc = .ok (.astore_n k, 1)) (e : k.val < ls.length) (e2 : q.1 ≠ 63) : Ev d y pc ls (.inr q :: r) g = Ev d y (pc + 1) (ls.set k (some (.inr q))) r g := st_nx h (by simp [zex, zsto, e, e2])
theorem st_iinc (h : decode (zBy y) pc = .ok (.iinc k o, 3)) (e : ls[k]? = some (some (.inl x))) : Ev d y pc ls st g = Ev d y (pc + 3) (ls.set k (some (.inl (zwr (x + o))))) st g := st_nx h (by simp [zex, e])
theorem st_iadd (h : decode (zBy y) pc = .ok (.iadd, 1)) : Ev d y pc ls (.inl b :: .inl a :: r) g = Ev d y (pc + 1) ls (.inl (zwr (a + b)) :: r) g := st_nx h (by simp [zex, zbin])
theorem st_isub (h : decode (zBy y) pc = .ok (.isub, 1)) : Ev d y pc ls (.inl b :: .inl a :: r) g = Ev d y (pc + 1) ls (.inl (zwr (a - b)) :: r) g := st_nx h (by simp [zex, zbin])
theorem st_imul (h : decode (zBy y) pc = .ok (.imul, 1)) : Ev d y pc ls (.inl b :: .inl a :: r) g = Ev d y (pc + 1) ls (.inl (zwr (a * b)) :: r) g := st_nx h (by simp [zex, zbin])
theorem st_iand (h : decode (zBy y) pc = .ok (.iand, 1)) : Ev d y pc ls (.inl b :: .inl a :: r) g = Ev d y (pc + 1) ls (.inl (zand a b) :: r) g := st_nx h (by simp [zex, zbin])
theorem st_ior (h : decode (zBy y) pc = .ok (.ior, 1)) : Ev d y pc ls (.inl b :: .inl a :: r) g = Ev d y (pc + 1) ls (.inl (zor a b) :: r) g := st_nx h (by simp [zex, zbin])
theorem st_ixor (h : decode (zBy y) pc = .ok (.ixor, 1)) : Ev d y pc ls (.inl b :: .inl a :: r) g = Ev d y (pc + 1) ls (.inl (zxor a b) :: r) g := st_nx h (by simp [zex, zbin])
theorem st_ishl (h : decode (zBy y) pc = .ok (.ishl, 1)) : Ev d y pc ls (.inl b :: .inl a :: r) g = Ev d y (pc + 1) ls (.inl (zshl a b) :: r) g := st_nx h (by simp [zex, zbin])
theorem st_ishr (h : decode (zBy y) pc = .ok (.ishr, 1)) : Ev d y pc ls (.inl b :: .inl a :: r) g = Ev d y (pc + 1) ls (.inl (zshr a b) :: r) g := st_nx h (by simp [zex, zbin])
theorem st_iushr (h : decode (zBy y) pc = .ok (.iushr, 1)) : Ev d y pc ls (.inl b :: .inl a :: r) g = Ev d y (pc + 1) ls (.inl (zushr a b) :: r) g := st_nx h (by simp [zex, zbin])
theorem st_fail (h : decode (zBy y) pc = .ok (I, n)) (e : zex y pc I n ls st g = none) : Ev d y pc ls st g = none := by rw [st_of h, e]; rfl
theorem st_idiv (h : decode (zBy y) pc = .ok (.idiv, 1)) : Ev d y pc ls (.inl b :: .inl a :: r) g = if b = 0 then none else Ev d y (pc + 1) ls (.inl (zwr (Int.tdiv a b)) :: r) g := by
  by_cases e : b = 0
  · rw [if_pos e]; exact st_fail h (by simp [zex, zdivs, e])
  · rw [if_neg e]; exact st_nx h (by simp [zex, zdivs, e])
theorem st_irem (h : decode (zBy y) pc = .ok (.irem, 1)) : Ev d y pc ls (.inl b :: .inl a :: r) g = if b = 0 then none else Ev d y (pc + 1) ls (.inl (Int.tmod a b) :: r) g := by
  by_cases e : b = 0
  · rw [if_pos e]; exact st_fail h (by simp [zex, zdivs, e])
  · rw [if_neg e]; exact st_nx h (by simp [zex, zdivs, e])
theorem st_ineg (h : decode (zBy y) pc = .ok (.ineg, 1)) : Ev d y pc ls (.inl a :: r) g = Ev d y (pc + 1) ls (.inl (zwr (-a)) :: r) g := st_nx h (by simp [zex])
theorem st_i2b (h : decode (zBy y) pc = .ok (.i2b, 1)) : Ev d y pc ls (.inl a :: r) g = Ev d y (pc + 1) ls (.inl (zi2b a) :: r) g := st_nx h (by simp [zex])
theorem st_i2c (h : decode (zBy y) pc = .ok (.i2c, 1)) : Ev d y pc ls (.inl a :: r) g = Ev d y (pc + 1) ls (.inl (zi2c a) :: r) g := st_nx h (by simp [zex])
theorem st_dup {a : zV} (h : decode (zBy y) pc = .ok (.dup, 1)) : Ev d y pc ls (a :: r) g = Ev d y (pc + 1) ls (a :: a :: r) g := st_nx h (by simp [zex])
theorem st_dup2 {a b : zV} (h : decode (zBy y) pc = .ok (.dup2, 1)) : Ev d y pc ls (a :: b :: r) g = Ev d y (pc + 1) ls (a :: b :: a :: b :: r) g := st_nx h (by simp [zex])
theorem st_pop {a : zV} (h : decode (zBy y) pc = .ok (.pop, 1)) : Ev d y pc ls (a :: r) g = Ev d y (pc + 1) ls r g := st_nx h (by simp [zex])
theorem st_goto (h : decode (zBy y) pc = .ok (.goto o, 3)) (e : zjp pc o = some t) : Ev d y pc ls st g = Ev d y t ls st g := st_nx h (by simp [zex, zgo, e])
theorem st_br {bb : Bool} {p : Prop} [Decidable p] (h : decode (zBy y) pc = .ok (I, 3)) (hx : zex y pc I 3 ls st g = zbr bb pc o ls r g) (hb : bb = decide p) (e : zjp pc o = some t) : Ev d y pc ls st g = if p then Ev d y t ls r g else Ev d y (pc + 3) ls r g := by
  by_cases hp : p
  · rw [if_pos hp]; exact st_nx h (by rw [hx, hb]; simp [zbr, zgo, e, hp])
  · rw [if_neg hp]; exact st_nx h (by rw [hx, hb]; simp [zbr, hp, e])
theorem st_if_eq (h : decode (zBy y) pc = .ok (.ifCond .eq o, 3)) (e : zjp pc o = some t) : Ev d y pc ls (.inl a :: r) g = if a = 0 then Ev d y t ls r g else Ev d y (pc + 3) ls r g := st_br h rfl rfl e
theorem st_if_ne (h : decode (zBy y) pc = .ok (.ifCond .ne o, 3)) (e : zjp pc o = some t) : Ev d y pc ls (.inl a :: r) g = if a ≠ 0 then Ev d y t ls r g else Ev d y (pc + 3) ls r g := st_br h rfl rfl e
theorem st_if_lt (h : decode (zBy y) pc = .ok (.ifCond .lt o, 3)) (e : zjp pc o = some t) : Ev d y pc ls (.inl a :: r) g = if a < 0 then Ev d y t ls r g else Ev d y (pc + 3) ls r g := st_br h rfl rfl e
theorem st_if_ge (h : decode (zBy y) pc = .ok (.ifCond .ge o, 3)) (e : zjp pc o = some t) : Ev d y pc ls (.inl a :: r) g = if 0 ≤ a then Ev d y t ls r g else Ev d y (pc + 3) ls r g := st_br h rfl rfl e
theorem st_if_gt (h : decode (zBy y) pc = .ok (.ifCond .gt o, 3)) (e : zjp pc o = some t) : Ev d y pc ls (.inl a :: r) g = if 0 < a then Ev d y t ls r g else Ev d y (pc + 3) ls r g := st_br h rfl rfl e
theorem st_if_le (h : decode (zBy y) pc = .ok (.ifCond .le o, 3)) (e : zjp pc o = some t) : Ev d y pc ls (.inl a :: r) g = if a ≤ 0 then Ev d y t ls r g else Ev d y (pc + 3) ls r g := st_br h rfl rfl e
theorem st_ic_eq (h : decode (zBy y) pc = .ok (.if_icmp .eq o, 3)) (e : zjp pc o = some t) : Ev d y pc ls (.inl b :: .inl a :: r) g = if a = b then Ev d y t ls r g else Ev d y (pc + 3) ls r g := st_br h rfl rfl e
theorem st_ic_ne (h : decode (zBy y) pc = .ok (.if_icmp .ne o, 3)) (e : zjp pc o = some t) : Ev d y pc ls (.inl b :: .inl a :: r) g = if a ≠ b then Ev d y t ls r g else Ev d y (pc + 3) ls r g := st_br h rfl rfl e
theorem st_ic_lt (h : decode (zBy y) pc = .ok (.if_icmp .lt o, 3)) (e : zjp pc o = some t) : Ev d y pc ls (.inl b :: .inl a :: r) g = if a < b then Ev d y t ls r g else Ev d y (pc + 3) ls r g := st_br h rfl rfl e
theorem st_ic_ge (h : decode (zBy y) pc = .ok (.if_icmp .ge o, 3)) (e : zjp pc o = some t) : Ev d y pc ls (.inl b :: .inl a :: r) g = if b ≤ a then Ev d y t ls r g else Ev d y (pc + 3) ls r g := st_br h rfl rfl e
theorem st_ic_gt (h : decode (zBy y) pc = .ok (.if_icmp .gt o, 3)) (e : zjp pc o = some t) : Ev d y pc ls (.inl b :: .inl a :: r) g = if b < a then Ev d y t ls r g else Ev d y (pc + 3) ls r g := st_br h rfl rfl e
theorem st_ic_le (h : decode (zBy y) pc = .ok (.if_icmp .le o, 3)) (e : zjp pc o = some t) : Ev d y pc ls (.inl b :: .inl a :: r) g = if a ≤ b then Ev d y t ls r g else Ev d y (pc + 3) ls r g := st_br h rfl rfl e
theorem st_getI (h : decode (zBy y) pc = .ok (.getfield i, 3)) (e : zLk zLf (zOw y) i = some (c, s) ∧ (zF c s).map Prod.fst = some t ∧ t < 2) : Ev d y pc ls (.inr (c, j) :: r) g = Ev d y (pc + 3) ls (.inl (g c j s) :: r) g := by
  obtain ⟨e1, e2, e3⟩ := e
  refine st_nx h ?_
  cases hf : zF c s with
  | none => rw [hf] at e2; simp at e2
  | some f =>
    obtain ⟨f1, f2, f3⟩ := f
    rw [hf] at e2
    simp at e2
    subst e2
    rcases (show f1 = 0 ∨ f1 = 1 by omega) with q | q <;> subst q <;> simp [zex, zgetf, e1, hf]
theorem st_getR (h : decode (zBy y) pc = .ok (.getfield i, 3)) (e : zLk zLf (zOw y) i = some (c, s) ∧ zF c s = some (2, tk, off)) : Ev d y pc ls (.inr (c, j) :: r) g = Ev d y (pc + 3) ls (.inr (tk, if off = 0 then j else off + j) :: r) g := st_nx h (by simp [zex, zgetf, e.1, e.2])
theorem st_get0 (h : decode (zBy y) pc = .ok (.getfield i, 3)) (e : zLk zLf (zOw y) i = some (c, s) ∧ zF c s = some (3, 0, 0)) : Ev d y pc ls (.inr (c, j) :: r) g = Ev d y (pc + 3) ls (.inl 0 :: r) g := st_nx h (by simp [zex, zgetf, e.1, e.2])
theorem st_putI (h : decode (zBy y) pc = .ok (.putfield i, 3)) (e : zLk zLf (zOw y) i = some (c, s) ∧ zF c s = some (0, 0, 0)) : Ev d y pc ls (.inl x :: .inr (c, j) :: r) g = Ev d y (pc + 3) ls r (zU g c j s x) := st_nx h (by simp [zex, zputf, e.1, e.2])
theorem st_putZ (h : decode (zBy y) pc = .ok (.putfield i, 3)) (e : zLk zLf (zOw y) i = some (c, s) ∧ zF c s = some (1, 0, 0)) : Ev d y pc ls (.inl x :: .inr (c, j) :: r) g = if x = 0 ∨ x = 1 then Ev d y (pc + 3) ls r (zU g c j s x) else none := by
  by_cases hx : x = 0 ∨ x = 1
  · rw [if_pos hx]; exact st_nx h (by simp [zex, zputf, e.1, e.2, hx])
  · rw [if_neg hx]; exact st_fail h (by simp [zex, zputf, e.1, e.2, hx])
theorem st_gs0 (h : decode (zBy y) pc = .ok (.getstatic i, 3)) (e : zLk zLg (zOw y) i = some 0) : Ev d y pc ls st g = Ev d y (pc + 3) ls (.inl 1 :: st) g := st_nx h (by simp [zex, e])
theorem st_gs1 (h : decode (zBy y) pc = .ok (.getstatic i, 3)) (e : zLk zLg (zOw y) i = some 1) : Ev d y pc ls st g = Ev d y (pc + 3) ls (.inr (63, 0) :: st) g := st_nx h (by simp [zex, e])
theorem st_iald (h : decode (zBy y) pc = .ok (.iaload, 1)) (e : zA k = some (0, n)) : Ev d y pc ls (.inl x :: .inr (k, j) :: r) g = if 0 ≤ x ∧ x < n then Ev d y (pc + 1) ls (.inl (g k j x.toNat) :: r) g else none := by
  by_cases hx : 0 ≤ x ∧ x < n
  · rw [if_pos hx]; exact st_nx h (by simp [zex, zaload, e, hx])
  · rw [if_neg hx]; exact st_fail h (by simp only [zex, zaload, e]; simp; intro a b; exact absurd ⟨a, b⟩ hx)
theorem st_ialdS (h : decode (zBy y) pc = .ok (.iaload, 1)) : Ev d y pc ls (.inl x :: .inr (60, j) :: r) g = if 0 ≤ x ∧ x < g 60 1 0 then Ev d y (pc + 1) ls (.inl (g 60 0 x.toNat) :: r) g else none := by
  have e : zA 60 = none := by decide +kernel
  by_cases hx : 0 ≤ x ∧ x < g 60 1 0
  · rw [if_pos hx]; exact st_nx h (by simp [zex, zaload, e, hx])
  · rw [if_neg hx]; exact st_fail h (by simp only [zex, zaload, e]; simp; intro a b; exact absurd ⟨a, b⟩ hx)
theorem st_bald (h : decode (zBy y) pc = .ok (.baload, 1)) (e : zA k = some (1, n)) : Ev d y pc ls (.inl x :: .inr (k, j) :: r) g = if 0 ≤ x ∧ x < n then Ev d y (pc + 1) ls (.inl (g k j x.toNat) :: r) g else none := by
  by_cases hx : 0 ≤ x ∧ x < n
  · rw [if_pos hx]; exact st_nx h (by simp [zex, zaload, e, hx])
  · rw [if_neg hx]; exact st_fail h (by simp only [zex, zaload, e]; simp; intro a b; exact absurd ⟨a, b⟩ hx)
theorem st_baldT (h : decode (zBy y) pc = .ok (.baload, 1)) : Ev d y pc ls (.inl x :: .inr (62, j) :: r) g = if 0 ≤ x ∧ x < (zTx.getD j []).length then Ev d y (pc + 1) ls (.inl ((zTx.getD j []).getD x.toNat 0) :: r) g else none := by
  have e : zA 62 = none := by decide +kernel
  by_cases hx : 0 ≤ x ∧ x < (zTx.getD j []).length
  · rw [if_pos hx]; exact st_nx h (by simp only [zex, zaload, e]; rw [if_pos trivial, if_neg (by simp), if_pos ⟨trivial, trivial⟩, if_pos hx])
  · rw [if_neg hx]; exact st_fail h (by simp only [zex, zaload, e]; rw [if_pos trivial, if_neg (by simp), if_pos ⟨trivial, trivial⟩, if_neg hx])
theorem st_aald (h : decode (zBy y) pc = .ok (.aaload, 1)) (e : zA k = some (2, n)) : Ev d y pc ls (.inl x :: .inr (k, j) :: r) g = if 0 ≤ x ∧ x < n then Ev d y (pc + 1) ls (.inr (1, 2 + x.toNat) :: r) g else none := by
  by_cases hx : 0 ≤ x ∧ x < n
  · rw [if_pos hx]; exact st_nx h (by simp [zex, zaload, e, hx])
  · rw [if_neg hx]; exact st_fail h (by simp only [zex, zaload, e]; simp; intro a b; exact absurd ⟨a, b⟩ hx)
theorem st_iast (h : decode (zBy y) pc = .ok (.iastore, 1)) (e : zA k = some (0, n)) : Ev d y pc ls (.inl x :: .inl a :: .inr (k, j) :: r) g = if 0 ≤ a ∧ a < n then Ev d y (pc + 1) ls r (zU g k j a.toNat x) else none := by
  by_cases hx : 0 ≤ a ∧ a < n
  · rw [if_pos hx]; exact st_nx h (by simp [zex, zastore, e, hx])
  · rw [if_neg hx]; exact st_fail h (by simp only [zex, zastore, e]; simp; intro a b; exact absurd ⟨a, b⟩ hx)
theorem st_bast (h : decode (zBy y) pc = .ok (.bastore, 1)) (e : zA k = some (1, n)) : Ev d y pc ls (.inl x :: .inl a :: .inr (k, j) :: r) g = if 0 ≤ a ∧ a < n then Ev d y (pc + 1) ls r (zU g k j a.toNat (zi2b x)) else none := by
  by_cases hx : 0 ≤ a ∧ a < n
  · rw [if_pos hx]; exact st_nx h (by simp [zex, zastore, e, hx])
  · rw [if_neg hx]; exact st_fail h (by simp only [zex, zastore, e]; simp; intro a b; exact absurd ⟨a, b⟩ hx)
theorem st_alen {e0 : Nat} (h : decode (zBy y) pc = .ok (.arraylength, 1)) (e : zA k = some (e0, n)) : Ev d y pc ls (.inr (k, j) :: r) g = Ev d y (pc + 1) ls (.inl (n : Int) :: r) g := st_nx h (by simp [zex, zal, e])
theorem st_alenS (h : decode (zBy y) pc = .ok (.arraylength, 1)) : Ev d y pc ls (.inr (60, j) :: r) g = Ev d y (pc + 1) ls (.inl (g 60 1 0) :: r) g := st_nx h (by simp [zex, zal, show zA 60 = none by decide +kernel])
theorem st_alenT (h : decode (zBy y) pc = .ok (.arraylength, 1)) : Ev d y pc ls (.inr (62, j) :: r) g = Ev d y (pc + 1) ls (.inl ((zTx.getD j []).length : Int) :: r) g := st_nx h (by simp only [zex, zal, show zA 62 = none by decide +kernel]; rfl)
theorem st_iret (h : decode (zBy y) pc = .ok (.ireturn, 1)) (e : zRy y = some .int) : Ev d y pc ls [.inl x] g = some (some (.inl x), g) := by rw [st_of h]; simp [zex, e, zrtok, zfin]
theorem st_zret (h : decode (zBy y) pc = .ok (.ireturn, 1)) (e : zRy y = some .boolean) : Ev d y pc ls [.inl x] g = if x = 0 ∨ x = 1 then some (some (.inl x), g) else none := by
  rw [st_of h]
  by_cases hx : x = 0 ∨ x = 1
  · rw [if_pos hx]; simp [zex, e, zrtok, zfin, hx]
  · rw [if_neg hx]; simp [zex, e, zrtok, zfin, hx]
theorem st_cret (h : decode (zBy y) pc = .ok (.ireturn, 1)) (e : zRy y = some .char) : Ev d y pc ls [.inl x] g = if 0 ≤ x ∧ x < 65536 then some (some (.inl x), g) else none := by
  rw [st_of h]
  by_cases hx : 0 ≤ x ∧ x < 65536
  · rw [if_pos hx]; simp [zex, e, zrtok, zfin, hx]
  · rw [if_neg hx]; simp only [zex, e, zrtok, zfin, decide_eq_true_eq, if_neg hx]; rfl
theorem st_bret (h : decode (zBy y) pc = .ok (.ireturn, 1)) (e : zRy y = some .byte) : Ev d y pc ls [.inl x] g = if -128 ≤ x ∧ x < 128 then some (some (.inl x), g) else none := by
  rw [st_of h]
  by_cases hx : -128 ≤ x ∧ x < 128
  · rw [if_pos hx]; simp [zex, e, zrtok, zfin, hx]
  · rw [if_neg hx]; simp only [zex, e, zrtok, zfin, decide_eq_true_eq, if_neg hx]; rfl
theorem st_aret (h : decode (zBy y) pc = .ok (.areturn, 1)) (e : zRk y = 2) (e2 : k ≠ 63) : Ev d y pc ls [.inr (k, j)] g = some (some (.inr (k, j)), g) := by rw [st_of h]; simp [zex, e, zfin, e2]
theorem st_vret (h : decode (zBy y) pc = .ok (.return_, 1)) (e : zRk y = 0) : Ev d y pc ls [] g = some (none, g) := by rw [st_of h]; simp [zex, e, zfin]
theorem st_call {y' : Nat} {as rest : List zV} {v : Bool} (h : decode (zBy y) pc = .ok (if v then .invokevirtual i else .invokestatic i, 3)) (hc : zcall y pc i st v = some (.inr (.inr (y', as, pc + 3, rest)))) : Ev (d + 1) y pc ls st g = zct (d + 1) y (pc + 3) ls y' (EvM d y' as g) rest := by
  rw [st_of h]
  cases v <;> simp [zex, hc, zfin]
theorem zcall_v {y' : Nat} {as rest : List zV} (e : (zLk zLm (zOw y) i, zNa y', zSt y', zKd y') = (some y', n, false, kd)) (h1 : (st.take n).reverse = .inr (kd, j) :: as) (h2 : st.drop n = rest) (h3 : n ≤ st.length) (h4 : rest.length ≤ 8) : zcall y pc i st true = some (.inr (.inr (y', .inr (kd, j) :: as, pc + 3, rest))) := by
  simp only [Prod.mk.injEq] at e
  obtain ⟨e1, e2, e3, e4⟩ := e
  subst h2
  simp only [zcall, e1, e2, e3, h1, e4]
  rw [if_pos ⟨h3, h4, rfl⟩, if_pos trivial]
theorem zcall_s {y' : Nat} {as rest : List zV} (e : (zLk zLm (zOw y) i, zNa y', zSt y') = (some y', n, true)) (h1 : (st.take n).reverse = as) (h2 : st.drop n = rest) (h3 : n ≤ st.length) (h4 : rest.length ≤ 8) : zcall y pc i st false = some (.inr (.inr (y', as, pc + 3, rest))) := by
  simp only [Prod.mk.injEq] at e
  obtain ⟨e1, e2, e3⟩ := e
  subst h2; subst h1
  simp only [zcall, e1, e2, e3]
  rw [if_pos ⟨h3, h4, rfl⟩]
theorem zb_I {y' : Nat} {X : Option (Option zV × zG)} {rest : List zV} (hk : zRk y' = 1) {p2 : Nat} : zct (d + 1) y p2 ls y' X rest = zbI X (fun r g' => Ev (d + 1) y p2 ls (.inl r :: rest) g') := by
  rcases X with _ | ⟨_ | _ | _, g'⟩ <;> simp [zct, zbI, zrt, hk]
theorem zb_V {y' : Nat} {X : Option (Option zV × zG)} {rest : List zV} (hk : zRk y' = 0) {p2 : Nat} : zct (d + 1) y p2 ls y' X rest = zbV X (fun g' => Ev (d + 1) y p2 ls rest g') := by
  rcases X with _ | ⟨_ | _ | _, g'⟩ <;> simp [zct, zbV, zrt, hk]
theorem zb_R {y' : Nat} {X : Option (Option zV × zG)} {rest : List zV} (hk : zRk y' = 2) {p2 : Nat} : zct (d + 1) y p2 ls y' X rest = zbR X (fun r g' => Ev (d + 1) y p2 ls (.inr r :: rest) g') := by
  rcases X with _ | ⟨_ | _ | _, g'⟩ <;> simp [zct, zbR, zrt, hk]
theorem st_cvI {y' : Nat} {as rest : List zV} (h : decode (zBy y) pc = .ok (.invokevirtual i, 3)) (e : (zLk zLm (zOw y) i, zNa y', zSt y', zKd y') = (some y', n, false, kd)) (hk : zRk y' = 1) (h1 : (st.take n).reverse = .inr (kd, j) :: as) (h2 : st.drop n = rest) (h3 : n ≤ st.length) (h4 : rest.length ≤ 8) : Ev (d + 1) y pc ls st g = zbI (EvM d y' (.inr (kd, j) :: as) g) (fun r g' => Ev (d + 1) y (pc + 3) ls (.inl r :: rest) g') := (st_call (v := true) h (zcall_v e h1 h2 h3 h4)).trans (zb_I hk)
theorem st_cvV {y' : Nat} {as rest : List zV} (h : decode (zBy y) pc = .ok (.invokevirtual i, 3)) (e : (zLk zLm (zOw y) i, zNa y', zSt y', zKd y') = (some y', n, false, kd)) (hk : zRk y' = 0) (h1 : (st.take n).reverse = .inr (kd, j) :: as) (h2 : st.drop n = rest) (h3 : n ≤ st.length) (h4 : rest.length ≤ 8) : Ev (d + 1) y pc ls st g = zbV (EvM d y' (.inr (kd, j) :: as) g) (fun g' => Ev (d + 1) y (pc + 3) ls rest g') := (st_call (v := true) h (zcall_v e h1 h2 h3 h4)).trans (zb_V hk)
theorem st_cvR {y' : Nat} {as rest : List zV} (h : decode (zBy y) pc = .ok (.invokevirtual i, 3)) (e : (zLk zLm (zOw y) i, zNa y', zSt y', zKd y') = (some y', n, false, kd)) (hk : zRk y' = 2) (h1 : (st.take n).reverse = .inr (kd, j) :: as) (h2 : st.drop n = rest) (h3 : n ≤ st.length) (h4 : rest.length ≤ 8) : Ev (d + 1) y pc ls st g = zbR (EvM d y' (.inr (kd, j) :: as) g) (fun r g' => Ev (d + 1) y (pc + 3) ls (.inr r :: rest) g') := (st_call (v := true) h (zcall_v e h1 h2 h3 h4)).trans (zb_R hk)
theorem st_csI {y' : Nat} {as rest : List zV} (h : decode (zBy y) pc = .ok (.invokestatic i, 3)) (e : (zLk zLm (zOw y) i, zNa y', zSt y') = (some y', n, true)) (hk : zRk y' = 1) (h1 : (st.take n).reverse = as) (h2 : st.drop n = rest) (h3 : n ≤ st.length) (h4 : rest.length ≤ 8) : Ev (d + 1) y pc ls st g = zbI (EvM d y' as g) (fun r g' => Ev (d + 1) y (pc + 3) ls (.inl r :: rest) g') := (st_call (v := false) h (zcall_s e h1 h2 h3 h4)).trans (zb_I hk)
theorem st_csV {y' : Nat} {as rest : List zV} (h : decode (zBy y) pc = .ok (.invokestatic i, 3)) (e : (zLk zLm (zOw y) i, zNa y', zSt y') = (some y', n, true)) (hk : zRk y' = 0) (h1 : (st.take n).reverse = as) (h2 : st.drop n = rest) (h3 : n ≤ st.length) (h4 : rest.length ≤ 8) : Ev (d + 1) y pc ls st g = zbV (EvM d y' as g) (fun g' => Ev (d + 1) y (pc + 3) ls rest g') := (st_call (v := false) h (zcall_s e h1 h2 h3 h4)).trans (zb_V hk)
theorem st_swIn {dd lo hi : Int} {os : Array Int} (h : decode (zBy y) pc = .ok (.tableswitch dd lo hi os, n)) (e : ¬ (x < lo ∨ hi < x) ∧ (os[(x - lo).toNat]?.bind (zjp pc)) = some t) : Ev d y pc ls (.inl x :: r) g = Ev d y t ls r g := st_nx h (by
  obtain ⟨e1, e2⟩ := e
  cases ho : os[(x - lo).toNat]? with
  | none => rw [ho] at e2; simp at e2
  | some o =>
    rw [ho] at e2
    simp at e2
    simp only [zex, zswT, if_neg e1, ho, zgo, e2])
theorem st_swOut {dd lo hi : Int} {os : Array Int} (h : decode (zBy y) pc = .ok (.tableswitch dd lo hi os, n)) (e : zjp pc dd = some t) (hx : x < lo ∨ hi < x) : Ev d y pc ls (.inl x :: r) g = Ev d y t ls r g := st_nx h (by simp only [zex, zswT, if_pos hx, zgo, e])
theorem st_swL {dd : Int} {ps : Array (Int × Int)} (h : decode (zBy y) pc = .ok (.lookupswitch dd ps, n)) (e : (ps.toList.zip (ps.toList.drop 1)).all (fun (a, next) => decide (a.1 < next.1)) = true) (e2 : zjp pc (Op.lookupswitch.offset ps.toList dd x) = some t) : Ev d y pc ls (.inl x :: r) g = Ev d y t ls r g := st_nx h (by simp only [zex, zswL]; rw [if_pos e]; simp only [zgo, e2])
end ST
theorem EvM_eq {d y n : Nat} {as : List zV} {g : zG} {ls : List (Option zV)} (h : (decide (y = 999), zMl y) = (false, n)) (h2 : as.length ≤ n) (h3 : as.map some ++ List.replicate (n - as.length) none = ls) : EvM d y as g = Ev d y 0 ls [] g := by
  simp only [Prod.mk.injEq, decide_eq_false_iff_not] at h
  obtain ⟨e1, e2⟩ := h
  subst h3
  subst e2
  rw [EvM, if_neg e1, if_pos h2, zini]
