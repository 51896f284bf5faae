/-! THE SMALL MACHINE: one step, a run, its value -/
abbrev zRt : Type := (Option zV) ⊕ ((Nat × List (Option zV) × List zV × zG) ⊕ (Nat × List zV × Nat × List zV))
def zLk {α : Type} (t : List (List (Nat × α))) (o i : Nat) : Option α := (t.getD o []).lookup i
def zwr (x : Int) : Int := (Int32.ofInt x).toInt
def zand (a b : Int) : Int := (Int32.ofInt a &&& Int32.ofInt b).toInt
def zor (a b : Int) : Int := (Int32.ofInt a ||| Int32.ofInt b).toInt
def zxor (a b : Int) : Int := (Int32.ofInt a ^^^ Int32.ofInt b).toInt
def zshl (a b : Int) : Int := (Int32.ofInt a <<< (Int32.ofInt b &&& 31)).toInt
def zshr (a b : Int) : Int := (Int32.ofInt a >>> (Int32.ofInt b &&& 31)).toInt
def zushr (a b : Int) : Int := ((Int32.ofInt a).toUInt32 >>> ((Int32.ofInt b).toUInt32 &&& Int32.toUInt32 31)).toInt32.toInt
def zi2b (a : Int) : Int := (Int32.ofInt a).toInt8.toInt32.toInt
def zi2c (a : Int) : Int := ((Int32.ofInt a).toUInt32 % 65536).toInt32.toInt
/-- one place of the contents is written -/
def zU (g : zG) (k j i : Nat) (x : Int) : zG := fun k' j' i' => if k' = k ∧ j' = j ∧ i' = i then x else g k' j' i'
def zF (c s : Nat) : Option (Nat × Nat × Nat) := if c = 61 then (if s = 0 then some (2, 62, 0) else some (3, 0, 0)) else (zFd.getD c [])[s]?
def zA (k : Nat) : Option (Nat × Nat) := if 20 ≤ k then zAr[k - 20]? else none
def zMt0 : zMt := (0, objectInit, ⟨#[]⟩, 0, none, 0, false)
def zMe (y : Nat) : zMt := zM.getD y zMt0
def zOw (y : Nat) : Nat := (zMe y).1
def zNm (y : Nat) : MethodName := (zMe y).2.1
def zBy (y : Nat) : ByteArray := (zMe y).2.2.1
def zMl (y : Nat) : Nat := (zMe y).2.2.2.1
def zRy (y : Nat) : Option FieldType := (zMe y).2.2.2.2.1
def zNa (y : Nat) : Nat := if y = 999 then 5 else (zMe y).2.2.2.2.2.1
def zSt (y : Nat) : Bool := if y = 999 then true else (zMe y).2.2.2.2.2.2
/-- the kind of a method's receiver -/
def zKd (y : Nat) : Nat := if zOw y < 13 then zOw y else 61
/-- what a method gives back: 0 nothing, 1 a number, 2 a reference -/
def zRk (y : Nat) : Nat := if y = 999 then 0 else match zRy y with
  | none => 0
  | some (.object _) => 2
  | some (.array _) => 2
  | some _ => 1
def zjp (pc : Nat) (off : Int) : Option Nat := if 0 ≤ (pc : Int) + off then some ((pc : Int) + off).toNat else none
def znx (pc : Nat) (ls : List (Option zV)) (st : List zV) (g : zG) : Option zRt := some (.inr (.inl (pc, ls, st, g)))
def zgo (pc : Nat) (off : Int) (ls : List (Option zV)) (st : List zV) (g : zG) : Option zRt := match zjp pc off with
  | none => none
  | some t => znx t ls st g
def zbr (b : Bool) (pc : Nat) (off : Int) (ls : List (Option zV)) (st : List zV) (g : zG) : Option zRt := match b with
  | true => zgo pc off ls st g
  | false => match zjp pc off with
    | none => none
    | some _ => znx (pc + 3) ls st g
def zcm (c : ClassFile.Cond) (a b : Int) : Bool := match c with
  | .eq => decide (a = b)
  | .ne => decide (a ≠ b)
  | .lt => decide (a < b)
  | .ge => decide (b ≤ a)
  | .gt => decide (b < a)
  | .le => decide (a ≤ b)
def zld (p2 : Nat) (k : Nat) (ls : List (Option zV)) (st : List zV) (g : zG) (isI : Bool) : Option zRt := match ls[k]? with
  | some (some (.inl x)) => if isI = true then znx p2 ls (.inl x :: st) g else none
  | some (some (.inr r)) => if isI = false ∧ r.1 ≠ 63 then znx p2 ls (.inr r :: st) g else none
  | _ => none
def zsto (p2 : Nat) (k : Nat) (ls : List (Option zV)) (st : List zV) (g : zG) (isI : Bool) : Option zRt := match st with
  | .inl x :: r => if isI = true ∧ k < ls.length then znx p2 (ls.set k (some (.inl x))) r g else none
  | .inr x :: r => if isI = false ∧ k < ls.length ∧ x.1 ≠ 63 then znx p2 (ls.set k (some (.inr x))) r g else none
  | _ => none
def zbin (f : Int → Int → Int) (pc : Nat) (ls : List (Option zV)) (st : List zV) (g : zG) : Option zRt := match st with
  | .inl b :: .inl a :: r => znx (pc + 1) ls (.inl (f a b) :: r) g
  | _ => none
def zdivs (f : Int → Int → Int) (pc : Nat) (ls : List (Option zV)) (st : List zV) (g : zG) : Option zRt := match st with
  | .inl b :: .inl a :: r => if b = 0 then none else znx (pc + 1) ls (.inl (f a b) :: r) g
  | _ => none
def zpush (p2 : Nat) (x : Int) (ls : List (Option zV)) (st : List zV) (g : zG) : Option zRt := if zwr x = x then znx p2 ls (.inl x :: st) g else none
def zldc (y p2 i : Nat) (ls : List (Option zV)) (st : List zV) (g : zG) (strs : Bool) : Option zRt := match zLk zLc (zOw y) i with
  | some v => zpush p2 v ls st g
  | none => match zLk zLs (zOw y) i with
    | some j => if j < 25 ∧ strs = true then znx p2 ls (.inr (61, j) :: st) g else none
    | none => none
def zgetf (y pc i : Nat) (ls : List (Option zV)) (st : List zV) (g : zG) : Option zRt := match st with
  | .inr (k, j) :: r => match zLk zLf (zOw y) i with
    | some (c, s) => if k = c then (match zF c s with
      | some (2, tk, off) => znx (pc + 3) ls (.inr (tk, if off = 0 then j else off + j) :: r) g
      | some (3, _, _) => znx (pc + 3) ls (.inl 0 :: r) g
      | some _ => znx (pc + 3) ls (.inl (g c j s) :: r) g
      | none => none) else none
    | none => none
  | _ => none
def zputf (y pc i : Nat) (ls : List (Option zV)) (st : List zV) (g : zG) : Option zRt := match st with
  | .inl x :: .inr (k, j) :: r => match zLk zLf (zOw y) i with
    | some (c, s) => if k = c then (match zF c s with
      | some (0, _, _) => znx (pc + 3) ls r (zU g c j s x)
      | some (1, _, _) => if x = 0 ∨ x = 1 then znx (pc + 3) ls r (zU g c j s x) else none
      | _ => none) else none
    | none => none
  | _ => none
def zal (k j : Nat) (g : zG) : Option Int := match zA k with
  | some (_, n) => some n
  | none => if k = 60 then some (g 60 1 0) else if k = 62 then some (zTx.getD j []).length else none
def zaload (e : Nat) (pc : Nat) (ls : List (Option zV)) (st : List zV) (g : zG) : Option zRt := match st with
  | .inl i :: .inr (k, j) :: r => match zA k with
    | some (e', n) => if e' = e ∧ 0 ≤ i ∧ i < n then (if e = 2 then znx (pc + 1) ls (.inr (1, 2 + i.toNat) :: r) g else znx (pc + 1) ls (.inl (g k j i.toNat) :: r) g) else none
    | none => if k = 60 ∧ e = 0 then (if 0 ≤ i ∧ i < g 60 1 0 then znx (pc + 1) ls (.inl (g 60 0 i.toNat) :: r) g else none)
      else if k = 62 ∧ e = 1 then (if 0 ≤ i ∧ i < (zTx.getD j []).length then znx (pc + 1) ls (.inl ((zTx.getD j []).getD i.toNat 0) :: r) g else none) else none
  | _ => none
def zastore (e : Nat) (f : Int → Int) (pc : Nat) (ls : List (Option zV)) (st : List zV) (g : zG) : Option zRt := match st with
  | .inl x :: .inl i :: .inr (k, j) :: r => match zA k with
    | some (e', n) => if e' = e ∧ 0 ≤ i ∧ i < n then znx (pc + 1) ls r (zU g k j i.toNat (f x)) else none
    | none => none
  | _ => none
def zrtok (t : Option FieldType) (x : Int) : Bool := match t with
  | some .int => true
  | some .boolean => decide (x = 0 ∨ x = 1)
  | some .char => decide (0 ≤ x ∧ x < 65536)
  | some .byte => decide (-128 ≤ x ∧ x < 128)
  | _ => false
def zcall (y pc i : Nat) (st : List zV) (virt : Bool) : Option zRt := match zLk zLm (zOw y) i with
  | some y' => if zNa y' ≤ st.length ∧ (st.drop (zNa y')).length ≤ 8 ∧ zSt y' = !virt then
      (match virt, (st.take (zNa y')).reverse with
      | false, as => some (.inr (.inr (y', as, pc + 3, st.drop (zNa y'))))
      | true, .inr (k, j) :: as => if k = zKd y' then some (.inr (.inr (y', .inr (k, j) :: as, pc + 3, st.drop (zNa y')))) else none
      | true, _ => none) else none
  | none => none
def zswT (pc : Nat) (d lo hi : Int) (os : Array Int) (ls : List (Option zV)) (st : List zV) (g : zG) : Option zRt := match st with
  | .inl x :: r => if x < lo ∨ hi < x then zgo pc d ls r g else match os[(x - lo).toNat]? with
    | some o => zgo pc o ls r g
    | none => none
  | _ => none
def zswL (pc : Nat) (d : Int) (ps : Array (Int × Int)) (ls : List (Option zV)) (st : List zV) (g : zG) : Option zRt := match st with
  | .inl x :: r => if (ps.toList.zip (ps.toList.drop 1)).all (fun (a, next) => decide (a.1 < next.1)) = true then zgo pc (Op.lookupswitch.offset ps.toList d x) ls r g else none
  | _ => none
/-- one instruction -/
def zex (y pc : Nat) (I : Instr) (n : Nat) (ls : List (Option zV)) (st : List zV) (g : zG) : Option zRt := match I with
  | .iconst k => if n = 1 then zpush (pc + 1) k ls st g else none
  | .bipush k => if n = 2 ∧ (Int8.ofInt k).toInt32 = Int32.ofInt k then zpush (pc + 2) k ls st g else none
  | .sipush k => if n = 3 ∧ (Int16.ofInt k).toInt32 = Int32.ofInt k then zpush (pc + 3) k ls st g else none
  | .ldc i => if n = 2 then zldc y (pc + 2) i ls st g true else none
  | .ldc_w i => if n = 3 then zldc y (pc + 3) i ls st g false else none
  | .iload k => if n = 2 then zld (pc + 2) k ls st g true else none
  | .iload_n k => if n = 1 then zld (pc + 1) k ls st g true else none
  | .aload k => if n = 2 then zld (pc + 2) k ls st g false else none
  | .aload_n k => if n = 1 then zld (pc + 1) k ls st g false else none
  | .istore k => if n = 2 then zsto (pc + 2) k ls st g true else none
  | .istore_n k => if n = 1 then zsto (pc + 1) k ls st g true else none
  | .astore k => if n = 2 then zsto (pc + 2) k ls st g false else none
  | .astore_n k => if n = 1 then zsto (pc + 1) k ls st g false else none
  | .iinc k c => if n = 3 then (match ls[k]? with
    | some (some (.inl x)) => znx (pc + 3) (ls.set k (some (.inl (zwr (x + c))))) st g
    | _ => none) else none
  | .iadd => if n = 1 then zbin (fun a b => zwr (a + b)) pc ls st g else none
  | .isub => if n = 1 then zbin (fun a b => zwr (a - b)) pc ls st g else none
  | .imul => if n = 1 then zbin (fun a b => zwr (a * b)) pc ls st g else none
  | .iand => if n = 1 then zbin zand pc ls st g else none
  | .ior => if n = 1 then zbin zor pc ls st g else none
  | .ixor => if n = 1 then zbin zxor pc ls st g else none
  | .ishl => if n = 1 then zbin zshl pc ls st g else none
  | .ishr => if n = 1 then zbin zshr pc ls st g else none
  | .iushr => if n = 1 then zbin zushr pc ls st g else none
  | .idiv => if n = 1 then zdivs (fun a b => zwr (Int.tdiv a b)) pc ls st g else none
  | .irem => if n = 1 then zdivs (fun a b => Int.tmod a b) pc ls st g else none
  | .ineg => if n = 1 then (match st with
    | .inl a :: r => znx (pc + 1) ls (.inl (zwr (-a)) :: r) g
    | _ => none) else none
  | .i2b => if n = 1 then (match st with
    | .inl a :: r => znx (pc + 1) ls (.inl (zi2b a) :: r) g
    | _ => none) else none
  | .i2c => if n = 1 then (match st with
    | .inl a :: r => znx (pc + 1) ls (.inl (zi2c a) :: r) g
    | _ => none) else none
  | .dup => if n = 1 then (match st with
    | a :: r => znx (pc + 1) ls (a :: a :: r) g
    | _ => none) else none
  | .dup2 => if n = 1 then (match st with
    | a :: b :: r => znx (pc + 1) ls (a :: b :: a :: b :: r) g
    | _ => none) else none
  | .pop => if n = 1 then (match st with
    | _ :: r => znx (pc + 1) ls r g
    | _ => none) else none
  | .goto o => if n = 3 then zgo pc o ls st g else none
  | .ifCond c o => if n = 3 then (match st with
    | .inl a :: r => zbr (zcm c a 0) pc o ls r g
    | _ => none) else none
  | .if_icmp c o => if n = 3 then (match st with
    | .inl b :: .inl a :: r => zbr (zcm c a b) pc o ls r g
    | _ => none) else none
  | .getfield i => if n = 3 then zgetf y pc i ls st g else none
  | .putfield i => if n = 3 then zputf y pc i ls st g else none
  | .getstatic i => if n = 3 then (match zLk zLg (zOw y) i with
    | some 0 => znx (pc + 3) ls (.inl 1 :: st) g
    | some 1 => znx (pc + 3) ls (.inr (63, 0) :: st) g
    | _ => none) else none
  | .iaload => if n = 1 then zaload 0 pc ls st g else none
  | .baload => if n = 1 then zaload 1 pc ls st g else none
  | .aaload => if n = 1 then zaload 2 pc ls st g else none
  | .iastore => if n = 1 then zastore 0 id pc ls st g else none
  | .bastore => if n = 1 then zastore 1 zi2b pc ls st g else none
  | .arraylength => if n = 1 then (match st with
    | .inr (k, j) :: r => (match zal k j g with
      | some v => znx (pc + 1) ls (.inl v :: r) g
      | none => none)
    | _ => none) else none
  | .ireturn => if n = 1 then (match st with
    | [.inl x] => if zrtok (zRy y) x = true then some (.inl (some (.inl x))) else none
    | _ => none) else none
  | .areturn => if n = 1 then (match st with
    | [.inr (k, j)] => if zRk y = 2 ∧ k ≠ 63 then some (.inl (some (.inr (k, j)))) else none
    | _ => none) else none
  | .return_ => if n = 1 then (match st with
    | [] => if zRk y = 0 then some (.inl none) else none
    | _ => none) else none
  | .invokevirtual i => if n = 3 then zcall y pc i st true else none
  | .invokestatic i => if n = 3 then zcall y pc i st false else none
  | .tableswitch d lo hi os => zswT pc d lo hi os ls st g
  | .lookupswitch d ps => zswL pc d ps ls st g
  | _ => none
def zstep (y pc : Nat) (ls : List (Option zV)) (st : List zV) (g : zG) : Option zRt := match decode (zBy y) pc with
  | .ok (I, n) => zex y pc I n ls st g
  | .error _ => none
/-- System.arraycopy between two arrays of numbers -/
def zcp (as : List zV) (g : zG) : Option (Option zV × zG) := match as with
  | [.inr (k, j), .inl sp, .inr (k2, j2), .inl dp, .inl n] => match zA k, zA k2 with
    | some (0, m), some (0, m2) => if 0 ≤ sp ∧ 0 ≤ dp ∧ 0 ≤ n ∧ sp + n ≤ m ∧ dp + n ≤ m2 then
        some (none, fun a b i => if a = k2 ∧ b = j2 then (if dp.toNat ≤ i ∧ i < dp.toNat + n.toNat then g k j (sp.toNat + (i - dp.toNat)) else g a b i) else g a b i) else none
    | _, _ => none
  | _ => none
/-- what comes back from a call, laid on the stack -/
def zrt (y : Nat) (rv : Option zV) (st : List zV) : Option (List zV) := match rv with
  | none => if zRk y = 0 then some st else none
  | some (.inl x) => if zRk y = 1 then some (.inl x :: st) else none
  | some (.inr r) => if zRk y = 2 then some (.inr r :: st) else none
def zini (y : Nat) (as : List zV) : List (Option zV) := as.map some ++ List.replicate (zMl y - as.length) none
def zrun : Nat → Nat → Nat → Nat → List (Option zV) → List zV → zG → Option (Option zV × zG)
  | 0, _, _, _, _, _, _ => none
  | n + 1, d, y, pc, ls, st, g => match zstep y pc ls st g with
    | none => none
    | some (.inl rv) => some (rv, g)
    | some (.inr (.inl (pc', ls', st', g'))) => zrun n d y pc' ls' st' g'
    | some (.inr (.inr (y', as, pc', st'))) => match d with
      | 0 => none
      | d' + 1 => match (if y' = 999 then zcp as g else if as.length ≤ zMl y' then zrun n d' y' 0 (zini y' as) [] g else none) with
        | none => none
        | some (rv, g') => match zrt y' rv st' with
          | none => none
          | some st'' => zrun n (d' + 1) y pc' ls st'' g'
theorem zrun_mono : ∀ (n d y pc : Nat) (ls : List (Option zV)) (st : List zV) (g : zG) (r : Option zV × zG), zrun n d y pc ls st g = some r → ∀ k, zrun (n + k) d y pc ls st g = some r := by
  intro n
  induction n with
  | zero => intro d y pc ls st g r h; simp [zrun] at h
  | succ n ih =>
    intro d y pc ls st g r h k
    rw [show n + 1 + k = (n + k) + 1 by omega]
    simp only [zrun] at h ⊢
    cases hs : zstep y pc ls st g with
    | none => rw [hs] at h; simp at h
    | some x =>
      rw [hs] at h
      rcases x with rv | ⟨pc', ls', st', g'⟩ | ⟨y', as, pc', st'⟩
      · exact h
      · exact ih _ _ _ _ _ _ _ h k
      · cases d with
        | zero => simp at h
        | succ d' =>
          simp only at h ⊢
          cases hc : (if y' = 999 then zcp as g else if as.length ≤ zMl y' then zrun n d' y' 0 (zini y' as) [] g else none) with
          | none => rw [hc] at h; simp at h
          | some q =>
            have hc' : (if y' = 999 then zcp as g else if as.length ≤ zMl y' then zrun (n + k) d' y' 0 (zini y' as) [] g else none) = some q := by
              by_cases e : y' = 999
              · rw [if_pos e] at hc ⊢; exact hc
              · rw [if_neg e] at hc ⊢
                by_cases e2 : as.length ≤ zMl y'
                · rw [if_pos e2] at hc ⊢; exact ih _ _ _ _ _ _ _ hc k
                · rw [if_neg e2] at hc; cases hc
            rw [hc] at h
            rw [hc']
            obtain ⟨rv, g'⟩ := q
            simp only at h ⊢
            cases hr : zrt y' rv st' with
            | none => rw [hr] at h; simp at h
            | some st'' =>
              rw [hr] at h
              exact ih _ _ _ _ _ _ _ h k
theorem zrun_one {n m d y pc : Nat} {ls : List (Option zV)} {st : List zV} {g : zG} {r q : Option zV × zG} (h : zrun n d y pc ls st g = some r) (h2 : zrun m d y pc ls st g = some q) : r = q := by
  have a := zrun_mono _ _ _ _ _ _ _ _ h m
  have b := zrun_mono _ _ _ _ _ _ _ _ h2 n
  rw [Nat.add_comm] at b
  rw [a] at b
  exact Option.some.inj b
/-- the value of a run from a place of a method on -/
noncomputable def Ev (d y pc : Nat) (ls : List (Option zV)) (st : List zV) (g : zG) : Option (Option zV × zG) :=
  @dite _ (∃ r n, zrun n d y pc ls st g = some r) (Classical.propDecidable _) (fun h => some h.choose) (fun _ => none)
theorem Ev_some {d y pc : Nat} {ls : List (Option zV)} {st : List zV} {g : zG} {r : Option zV × zG} : Ev d y pc ls st g = some r ↔ ∃ n, zrun n d y pc ls st g = some r := by
  unfold Ev
  by_cases h : ∃ r n, zrun n d y pc ls st g = some r
  · rw [dif_pos h]
    obtain ⟨m, hm⟩ := h.choose_spec
    constructor
    · intro e
      have e := Option.some.inj e
      exact ⟨m, by rw [hm, e]⟩
    · rintro ⟨n, hn⟩
      rw [zrun_one hn hm]
  · rw [dif_neg h]
    constructor
    · intro e; cases e
    · rintro ⟨n, hn⟩; exact absurd ⟨r, n, hn⟩ h
/-- a whole method -/
noncomputable def EvM (d y : Nat) (as : List zV) (g : zG) : Option (Option zV × zG) := if y = 999 then zcp as g else if as.length ≤ zMl y then Ev d y 0 (zini y as) [] g else none
/-- behind a call -/
noncomputable def zct (d y p2 : Nat) (ls : List (Option zV)) (y' : Nat) (X : Option (Option zV × zG)) (rest : List zV) : Option (Option zV × zG) := match X with
  | none => none
  | some (rv, g') => match zrt y' rv rest with
    | none => none
    | some st'' => Ev d y p2 ls st'' g'
noncomputable def zfin (d y : Nat) (x : Option zRt) (ls : List (Option zV)) (g : zG) : Option (Option zV × zG) := match x with
  | none => none
  | some (.inl rv) => some (rv, g)
  | some (.inr (.inl (pc', ls', st', g'))) => Ev d y pc' ls' st' g'
  | some (.inr (.inr (y', as, pc', st'))) => match d with
    | 0 => none
    | d' + 1 => zct (d' + 1) y pc' ls y' (EvM d' y' as g) st'
theorem EvM_some {d y : Nat} {as : List zV} {g : zG} {r : Option zV × zG} : EvM d y as g = some r ↔ ∃ n, (if y = 999 then zcp as g else if as.length ≤ zMl y then zrun n d y 0 (zini y as) [] g else none) = some r := by
  unfold EvM
  by_cases e : y = 999
  · simp only [if_pos e]
    exact ⟨fun h => ⟨0, h⟩, fun ⟨_, h⟩ => h⟩
  · simp only [if_neg e]
    by_cases e2 : as.length ≤ zMl y
    · simp only [if_pos e2]
      exact Ev_some
    · simp only [if_neg e2]
      exact ⟨fun h => ⟨0, h⟩, fun ⟨_, h⟩ => h⟩
theorem Ev_step (d y pc : Nat) (ls : List (Option zV)) (st : List zV) (g : zG) : Ev d y pc ls st g = zfin d y (zstep y pc ls st g) ls g := by
  apply Option.ext
  intro r
  rw [Ev_some]
  constructor
  · rintro ⟨n, h⟩
    cases n with
    | zero => simp [zrun] at h
    | succ n =>
      simp only [zrun] at h
      cases hs : zstep y pc ls st g with
      | none => rw [hs] at h; simp at h
      | some x =>
        rw [hs] at h
        rcases x with rv | ⟨pc', ls', st', g'⟩ | ⟨y', as, pc', st'⟩
        · exact h
        · exact Ev_some.mpr ⟨n, h⟩
        · cases d with
          | zero => simp at h
          | succ d' =>
            simp only at h
            simp only [zfin, zct]
            cases hc : (if y' = 999 then zcp as g else if as.length ≤ zMl y' then zrun n d' y' 0 (zini y' as) [] g else none) with
            | none => rw [hc] at h; simp at h
            | some q =>
              rw [hc] at h
              rw [EvM_some.mpr ⟨n, hc⟩]
              obtain ⟨rv, g'⟩ := q
              simp only at h ⊢
              cases hr : zrt y' rv st' with
              | none => rw [hr] at h; simp at h
              | some st'' =>
                rw [hr] at h
                exact Ev_some.mpr ⟨n, h⟩
  · intro h
    cases hs : zstep y pc ls st g with
    | none => rw [hs] at h; simp [zfin] at h
    | some x =>
      rw [hs] at h
      rcases x with rv | ⟨pc', ls', st', g'⟩ | ⟨y', as, pc', st'⟩
      · exact ⟨1, by simp only [zrun, hs]; exact h⟩
      · obtain ⟨n, hn⟩ := Ev_some.mp h
        exact ⟨n + 1, by simp only [zrun, hs]; exact hn⟩
      · cases d with
        | zero => simp [zfin] at h
        | succ d' =>
          simp only [zfin, zct] at h
          cases hc : EvM d' y' as g with
          | none => rw [hc] at h; simp at h
          | some q =>
            rw [hc] at h
            obtain ⟨rv, g'⟩ := q
            simp only at h
            cases hr : zrt y' rv st' with
            | none => rw [hr] at h; simp at h
            | some st'' =>
              rw [hr] at h
              obtain ⟨n, hn⟩ := Ev_some.mp h
              obtain ⟨m, hm⟩ := EvM_some.mp hc
              refine ⟨n + m + 1, ?_⟩
              have hm' : (if y' = 999 then zcp as g else if as.length ≤ zMl y' then zrun (n + m) d' y' 0 (zini y' as) [] g else none) = some (rv, g') := by
                by_cases e : y' = 999
                · rw [if_pos e] at hm ⊢; exact hm
                · rw [if_neg e] at hm ⊢
                  by_cases e2 : as.length ≤ zMl y'
                  · rw [if_pos e2] at hm ⊢
                    rw [Nat.add_comm]; exact zrun_mono _ _ _ _ _ _ _ _ hm n
                  · rw [if_neg e2] at hm; cases hm
              simp only [zrun, hs, hm', hr]
              exact zrun_mono _ _ _ _ _ _ _ _ hn m
