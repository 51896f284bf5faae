/-! THE SMALL MACHINE IS THE MACHINE: every instruction, calls, runs -/
theorem zI_wr {f : Int → Int → Int} {F : Int32 → Int32 → Int32} (h : ∀ a b, Int32.ofInt (f a b) = F (Int32.ofInt a) (Int32.ofInt b)) : ∀ a b, zwr a = a → zwr b = b → zwr (zwr (f a b)) = zwr (f a b) ∧ Int32.ofInt (zwr (f a b)) = F (Int32.ofInt a) (Int32.ofInt b) := fun a b _ _ => ⟨zwr_wr _, by rw [zwr_ofInt]; exact h a b⟩
theorem zB_and : ∀ a b : Int, zwr a = a → zwr b = b → zwr (zand a b) = zand a b ∧ Int32.ofInt (zand a b) = (fun a b : Int32 => a &&& b) (Int32.ofInt a) (Int32.ofInt b) := fun a b _ _ => by unfold zand; exact ⟨zwr_toInt _, Int32.ofInt_toInt _⟩
theorem zB_or : ∀ a b : Int, zwr a = a → zwr b = b → zwr (zor a b) = zor a b ∧ Int32.ofInt (zor a b) = (fun a b : Int32 => a ||| b) (Int32.ofInt a) (Int32.ofInt b) := fun a b _ _ => by unfold zor; exact ⟨zwr_toInt _, Int32.ofInt_toInt _⟩
theorem zB_xor : ∀ a b : Int, zwr a = a → zwr b = b → zwr (zxor a b) = zxor a b ∧ Int32.ofInt (zxor a b) = (fun a b : Int32 => a ^^^ b) (Int32.ofInt a) (Int32.ofInt b) := fun a b _ _ => by unfold zxor; exact ⟨zwr_toInt _, Int32.ofInt_toInt _⟩
theorem zB_shl : ∀ a b : Int, zwr a = a → zwr b = b → zwr (zshl a b) = zshl a b ∧ Int32.ofInt (zshl a b) = (fun a b : Int32 => a <<< (b &&& 31)) (Int32.ofInt a) (Int32.ofInt b) := fun a b _ _ => by unfold zshl; exact ⟨zwr_toInt _, Int32.ofInt_toInt _⟩
theorem zB_shr : ∀ a b : Int, zwr a = a → zwr b = b → zwr (zshr a b) = zshr a b ∧ Int32.ofInt (zshr a b) = (fun a b : Int32 => a >>> (b &&& 31)) (Int32.ofInt a) (Int32.ofInt b) := fun a b _ _ => by unfold zshr; exact ⟨zwr_toInt _, Int32.ofInt_toInt _⟩
theorem zB_ushr : ∀ a b : Int, zwr a = a → zwr b = b → zwr (zushr a b) = zushr a b ∧ Int32.ofInt (zushr a b) = (fun a b : Int32 => (a.toUInt32 >>> (b.toUInt32 &&& Int32.toUInt32 31)).toInt32) (Int32.ofInt a) (Int32.ofInt b) := fun a b _ _ => by unfold zushr; exact ⟨zwr_toInt _, Int32.ofInt_toInt _⟩
section SM
variable {y pc n : Nat} {ls : List (Option zV)} {st : List zV} {g : zG} {q : zQ4} {I : Instr}
set_option maxHeartbeats 4000000 in
theorem zs_nx (hd : decode (zBy y) pc = .ok (I, n)) (hs : zex y pc I n ls st g = some (.inr (.inl q))) (hv : zVd ls st g) (hl : ls.length = zMl y) : zT y pc ls st g q := by
  unfold zex at hs
  split at hs
  · replace hs := zif hs
    obtain ⟨hn, hs⟩ := hs
    subst hn
    exact zT_push hv hs (fun hC kk => lv_iconst hC.1 hC.2.1 hd rfl kk)
  · replace hs := zif hs
    obtain ⟨⟨hn, h8⟩, hs⟩ := hs
    subst hn
    exact zT_push hv hs (fun hC kk => lv_bipush hC.1 hC.2.1 hd h8 kk)
  · replace hs := zif hs
    obtain ⟨⟨hn, h8⟩, hs⟩ := hs
    subst hn
    exact zT_push hv hs (fun hC kk => lv_sipush hC.1 hC.2.1 hd h8 kk)
  · replace hs := zif hs
    obtain ⟨hn, hs⟩ := hs
    subst hn
    exact zT_ldc (Or.inl ⟨rfl, hd, rfl⟩) hv hs
  · replace hs := zif hs
    obtain ⟨hn, hs⟩ := hs
    subst hn
    exact zT_ldc (Or.inr ⟨rfl, hd, rfl⟩) hv hs
  · replace hs := zif hs
    obtain ⟨hn, hs⟩ := hs
    subst hn
    exact zT_ldI hv hs (fun hC h kk => lv_iload hC.1 hC.2.1 hd h kk)
  · replace hs := zif hs
    obtain ⟨hn, hs⟩ := hs
    subst hn
    exact zT_ldI hv hs (fun hC h kk => lv_iload_n hC.1 hC.2.1 hd rfl h kk)
  · replace hs := zif hs
    obtain ⟨hn, hs⟩ := hs
    subst hn
    exact zT_ldA hv hs (fun hC h kk => lv_aload hC.1 hC.2.1 hd h kk)
  · replace hs := zif hs
    obtain ⟨hn, hs⟩ := hs
    subst hn
    exact zT_ldA hv hs (fun hC h kk => lv_aload_n hC.1 hC.2.1 hd rfl h kk)
  · replace hs := zif hs
    obtain ⟨hn, hs⟩ := hs
    subst hn
    exact zT_stoI hv hl hs (fun hC h1 h2 kk => lv_istore hC.1 hC.2.1 hd h1 h2 rfl kk)
  · replace hs := zif hs
    obtain ⟨hn, hs⟩ := hs
    subst hn
    exact zT_stoI hv hl hs (fun hC h1 h2 kk => lv_istore_n hC.1 hC.2.1 hd rfl h1 h2 rfl kk)
  · replace hs := zif hs
    obtain ⟨hn, hs⟩ := hs
    subst hn
    exact zT_stoA hv hl hs (fun hC h1 h2 kk => lv_astore hC.1 hC.2.1 hd h1 h2 rfl kk)
  · replace hs := zif hs
    obtain ⟨hn, hs⟩ := hs
    subst hn
    exact zT_stoA hv hl hs (fun hC h1 h2 kk => lv_astore_n hC.1 hC.2.1 hd rfl h1 h2 rfl kk)
  · replace hs := zif hs
    obtain ⟨hn, hs⟩ := hs
    subst hn
    rename_i k c
    split at hs
    · rename_i x hx
      rw [znx_inj hs]
      refine ⟨⟨zVd_set hv (zwr_wr _) hv.2.1, by simp, rfl⟩, fun Z A p l e R s m args below meth c' cells slots Q H locs lsA hC hH kk => ?_⟩
      obtain ⟨i0, hi0⟩ := List.getElem?_of_mem (zlv_mem.mpr ⟨_, hx, rfl⟩ : (k, zval Z (.inl x)) ∈ zlv Z ls)
      exact lv_iinc (v := Int32.ofInt (zwr (x + c))) hC.1 hC.2.1 hd hH.1 hi0 (by rw [zwr_ofInt, Int32.ofInt_add]) (by rw [← hl]; exact (List.getElem?_eq_some_iff.mp hx).1) rfl (fun lsA' h => kk H locs lsA' ⟨zlv_set (v := .inl (zwr (x + c))) hC.2.2.2.2.2.2.1.2.2.2 h, hH.2.1, hH.2.2.1, hH.2.2.2⟩)
    · cases hs
  · replace hs := zif hs
    obtain ⟨hn, hs⟩ := hs
    subst hn
    exact zT_bin (F := fun a b => a + b) hv hs (zI_wr (f := fun a b => a + b) (fun a b => Int32.ofInt_add a b)) (fun hC kk => lv_iadd hC.1 hC.2.1 hd kk)
  · replace hs := zif hs
    obtain ⟨hn, hs⟩ := hs
    subst hn
    exact zT_bin (F := fun a b => a - b) hv hs (zI_wr (f := fun a b => a - b) (fun a b => Int32.ofInt_sub a b)) (fun hC kk => lv_isub hC.1 hC.2.1 hd kk)
  · replace hs := zif hs
    obtain ⟨hn, hs⟩ := hs
    subst hn
    exact zT_bin (F := fun a b => a * b) hv hs (zI_wr (f := fun a b => a * b) (fun a b => Int32.ofInt_mul a b)) (fun hC kk => lv_imul hC.1 hC.2.1 hd kk)
  · replace hs := zif hs
    obtain ⟨hn, hs⟩ := hs
    subst hn
    exact zT_bin (F := fun a b => a &&& b) hv hs zB_and (fun hC kk => lv_iand hC.1 hC.2.1 hd kk)
  · replace hs := zif hs
    obtain ⟨hn, hs⟩ := hs
    subst hn
    exact zT_bin (F := fun a b => a ||| b) hv hs zB_or (fun hC kk => lv_ior hC.1 hC.2.1 hd kk)
  · replace hs := zif hs
    obtain ⟨hn, hs⟩ := hs
    subst hn
    exact zT_bin (F := fun a b => a ^^^ b) hv hs zB_xor (fun hC kk => lv_ixor hC.1 hC.2.1 hd kk)
  · replace hs := zif hs
    obtain ⟨hn, hs⟩ := hs
    subst hn
    exact zT_bin (F := fun a b => a <<< (b &&& 31)) hv hs zB_shl (fun hC kk => lv_ishl hC.1 hC.2.1 hd kk)
  · replace hs := zif hs
    obtain ⟨hn, hs⟩ := hs
    subst hn
    exact zT_bin (F := fun a b => a >>> (b &&& 31)) hv hs zB_shr (fun hC kk => lv_ishr hC.1 hC.2.1 hd kk)
  · replace hs := zif hs
    obtain ⟨hn, hs⟩ := hs
    subst hn
    exact zT_bin (F := fun a b => (a.toUInt32 >>> (b.toUInt32 &&& Int32.toUInt32 31)).toInt32) hv hs zB_ushr (fun hC kk => lv_iushr hC.1 hC.2.1 hd rfl kk)
  · replace hs := zif hs
    obtain ⟨hn, hs⟩ := hs
    subst hn
    exact zT_div (F := fun a b => a / b) hv hs (fun a b ha hb _ => ⟨zwr_wr _, zI_div ha hb⟩) (fun hC h0 kk => lv_idiv hC.1 hC.2.1 hd h0 kk)
  · replace hs := zif hs
    obtain ⟨hn, hs⟩ := hs
    subst hn
    exact zT_div (F := fun a b => a - a / b * b) hv hs (fun a b ha hb h0 => ⟨zrem_ok ha h0, zI_rem ha hb⟩) (fun hC h0 kk => lv_irem hC.1 hC.2.1 hd h0 kk)
  · replace hs := zif hs
    obtain ⟨hn, hs⟩ := hs
    subst hn
    split at hs
    · rename_i a r
      rw [znx_inj hs]
      have h1 := List.forall_mem_cons.mp hv.2.1
      refine zT.pure hv (List.forall_mem_cons.mpr ⟨zwr_wr _, h1.2⟩) (fun hC _ kk => lv_ineg hC.1 hC.2.1 hd ?_)
      rw [← Int32.ofInt_neg, ← zwr_ofInt]
      exact kk
    · cases hs
  · replace hs := zif hs
    obtain ⟨hn, hs⟩ := hs
    subst hn
    split at hs
    · rename_i a r
      rw [znx_inj hs]
      have h1 := List.forall_mem_cons.mp hv.2.1
      exact zT.pure hv (List.forall_mem_cons.mpr ⟨zwr_toInt _, h1.2⟩) (fun hC _ kk => lv_i2b (v := Int32.ofInt (zi2b a)) hC.1 hC.2.1 hd (Int32.ofInt_toInt _).symm kk)
    · cases hs
  · replace hs := zif hs
    obtain ⟨hn, hs⟩ := hs
    subst hn
    split at hs
    · rename_i a r
      rw [znx_inj hs]
      have h1 := List.forall_mem_cons.mp hv.2.1
      exact zT.pure hv (List.forall_mem_cons.mpr ⟨zwr_toInt _, h1.2⟩) (fun hC _ kk => lv_i2c (v := Int32.ofInt (zi2c a)) hC.1 hC.2.1 hd (Int32.ofInt_toInt _).symm kk)
    · cases hs
  · replace hs := zif hs
    obtain ⟨hn, hs⟩ := hs
    subst hn
    split at hs
    · rename_i a r
      rw [znx_inj hs]
      have h1 := List.forall_mem_cons.mp hv.2.1
      exact zT.pure hv (List.forall_mem_cons.mpr ⟨h1.1, hv.2.1⟩) (fun hC _ kk => lv_dup hC.1 hC.2.1 hd (zval_cat hC.2.2.2.2.2.2.1.2.2.2 _) kk)
    · cases hs
  · replace hs := zif hs
    obtain ⟨hn, hs⟩ := hs
    subst hn
    split at hs
    · rename_i a b r
      rw [znx_inj hs]
      have h1 := List.forall_mem_cons.mp hv.2.1
      have h2 := List.forall_mem_cons.mp h1.2
      exact zT.pure hv (List.forall_mem_cons.mpr ⟨h1.1, List.forall_mem_cons.mpr ⟨h2.1, hv.2.1⟩⟩) (fun hC _ kk => lv_dup2_11 hC.1 hC.2.1 hd (zval_cat hC.2.2.2.2.2.2.1.2.2.2 _) (zval_cat hC.2.2.2.2.2.2.1.2.2.2 _) kk)
    · cases hs
  · replace hs := zif hs
    obtain ⟨hn, hs⟩ := hs
    subst hn
    split at hs
    · rename_i a r
      rw [znx_inj hs]
      have h1 := List.forall_mem_cons.mp hv.2.1
      exact zT.pure hv h1.2 (fun hC _ kk => lv_pop hC.1 hC.2.1 hd (zval_cat hC.2.2.2.2.2.2.1.2.2.2 _) kk)
    · cases hs
  · replace hs := zif hs
    obtain ⟨hn, hs⟩ := hs
    subst hn
    exact zT_go hv hv.2.1 hs (fun ht hC kk => lv_goto hC.1 hC.2.1 hd ht kk)
  · replace hs := zif hs
    obtain ⟨hn, hs⟩ := hs
    subst hn
    rename_i c o
    split at hs
    · rename_i a r
      have h1 := List.forall_mem_cons.mp hv.2.1
      have ha : zwr a = a := h1.1
      have e0 := zI_eq ha zwr_0
      have e1 := zI_lt ha zwr_0
      have e2 := zI_le ha zwr_0
      have e3 := zI_lt zwr_0 ha
      have e4 := zI_le zwr_0 ha
      rw [zI_0] at e0 e1 e2 e3 e4
      cases c
      · exact zT_br (P := Int32.ofInt a = 0) (by simp only [zcm, decide_eq_true_eq]; exact e0.symm) hv h1.2 hs (fun ht hC k1 k2 => lv_if_eq hC.1 hC.2.1 hd ht k1 k2)
      · exact zT_br (P := ¬ Int32.ofInt a = 0) (by simp only [zcm, decide_eq_true_eq]; exact (not_congr e0).symm) hv h1.2 hs (fun ht hC k1 k2 => lv_if_ne hC.1 hC.2.1 hd ht k1 (fun h => k2 (fun z => z h)))
      · exact zT_br (P := Int32.ofInt a < 0) (by simp only [zcm, decide_eq_true_eq]; exact e1.symm) hv h1.2 hs (fun ht hC k1 k2 => lv_if_lt hC.1 hC.2.1 hd ht k1 k2)
      · exact zT_br (P := 0 ≤ Int32.ofInt a) (by simp only [zcm, decide_eq_true_eq]; exact e4.symm) hv h1.2 hs (fun ht hC k1 k2 => lv_if_ge hC.1 hC.2.1 hd ht k1 k2)
      · exact zT_br (P := 0 < Int32.ofInt a) (by simp only [zcm, decide_eq_true_eq]; exact e3.symm) hv h1.2 hs (fun ht hC k1 k2 => lv_if_gt hC.1 hC.2.1 hd ht k1 k2)
      · exact zT_br (P := Int32.ofInt a ≤ 0) (by simp only [zcm, decide_eq_true_eq]; exact e2.symm) hv h1.2 hs (fun ht hC k1 k2 => lv_if_le hC.1 hC.2.1 hd ht k1 k2)
    · cases hs
  · replace hs := zif hs
    obtain ⟨hn, hs⟩ := hs
    subst hn
    rename_i c o
    split at hs
    · rename_i b a r
      have h1 := List.forall_mem_cons.mp hv.2.1
      have h2 := List.forall_mem_cons.mp h1.2
      have hb : zwr b = b := h1.1
      have ha : zwr a = a := h2.1
      cases c
      · exact zT_br (P := Int32.ofInt a = Int32.ofInt b) (by simp only [zcm, decide_eq_true_eq]; exact (zI_eq ha hb).symm) hv h2.2 hs (fun ht hC k1 k2 => lv_icmp_eq hC.1 hC.2.1 hd ht k1 k2)
      · exact zT_br (P := ¬ Int32.ofInt a = Int32.ofInt b) (by simp only [zcm, decide_eq_true_eq]; exact (not_congr (zI_eq ha hb)).symm) hv h2.2 hs (fun ht hC k1 k2 => lv_icmp_ne hC.1 hC.2.1 hd ht k1 (fun h => k2 (fun z => z h)))
      · exact zT_br (P := Int32.ofInt a < Int32.ofInt b) (by simp only [zcm, decide_eq_true_eq]; exact (zI_lt ha hb).symm) hv h2.2 hs (fun ht hC k1 k2 => lv_icmp_lt hC.1 hC.2.1 hd ht k1 k2)
      · exact zT_br (P := Int32.ofInt b ≤ Int32.ofInt a) (by simp only [zcm, decide_eq_true_eq]; exact (zI_le hb ha).symm) hv h2.2 hs (fun ht hC k1 k2 => lv_icmp_ge hC.1 hC.2.1 hd ht k1 k2)
      · exact zT_br (P := Int32.ofInt b < Int32.ofInt a) (by simp only [zcm, decide_eq_true_eq]; exact (zI_lt hb ha).symm) hv h2.2 hs (fun ht hC k1 k2 => lv_icmp_gt hC.1 hC.2.1 hd ht k1 k2)
      · exact zT_br (P := Int32.ofInt a ≤ Int32.ofInt b) (by simp only [zcm, decide_eq_true_eq]; exact (zI_le ha hb).symm) hv h2.2 hs (fun ht hC k1 k2 => lv_icmp_le hC.1 hC.2.1 hd ht k1 k2)
    · cases hs
  · replace hs := zif hs
    obtain ⟨hn, hs⟩ := hs
    subst hn
    exact zT_getf hd hv hs
  · replace hs := zif hs
    obtain ⟨hn, hs⟩ := hs
    subst hn
    exact zT_putf hd hv hs
  · replace hs := zif hs
    obtain ⟨hn, hs⟩ := hs
    subst hn
    split at hs
    · rename_i hg
      have hin := zLg_in hg
      rw [znx_inj hs]
      exact zT.pure hv (List.forall_mem_cons.mpr ⟨by show zwr 1 = 1; decide, hv.2.1⟩) (fun hC hH kk => va_gets hC.1 hC.2.1 hC.2.2.2.2.2.2.1.2.1 hH.2.2.2 hC.2.2.2.1 (hC.2.2.2.2.1 _ hin) (fun _ h => h) hd kk)
    · rename_i hg
      have hin := zLg_in hg
      rw [znx_inj hs]
      exact zT.pure hv (List.forall_mem_cons.mpr ⟨by show 0 < zCn.getD 63 0; decide +kernel, hv.2.1⟩) (fun hC hH kk => va_gets hC.1 hC.2.1 hC.2.2.2.2.2.2.1.2.2.1 hH.2.2.2 hC.2.2.2.1 (hC.2.2.2.2.1 _ hin) (fun _ h => h) hd kk)
    · cases hs
  · replace hs := zif hs
    obtain ⟨hn, hs⟩ := hs
    subst hn
    exact zT_ald (Or.inl ⟨rfl, hd⟩) hv hs
  · replace hs := zif hs
    obtain ⟨hn, hs⟩ := hs
    subst hn
    exact zT_ald (Or.inr (Or.inl ⟨rfl, hd⟩)) hv hs
  · replace hs := zif hs
    obtain ⟨hn, hs⟩ := hs
    subst hn
    exact zT_ald (Or.inr (Or.inr ⟨rfl, hd⟩)) hv hs
  · replace hs := zif hs
    obtain ⟨hn, hs⟩ := hs
    subst hn
    exact zT_ast (Or.inl ⟨rfl, rfl, hd⟩) hv hs
  · replace hs := zif hs
    obtain ⟨hn, hs⟩ := hs
    subst hn
    exact zT_ast (Or.inr ⟨rfl, rfl, hd⟩) hv hs
  · replace hs := zif hs
    obtain ⟨hn, hs⟩ := hs
    subst hn
    split at hs
    · rename_i k j r
      split at hs
      · rename_i v hal
        exact zT_alen hd hv hal hs
      · cases hs
    · cases hs
  · replace hs := zif hs
    obtain ⟨hn, hs⟩ := hs
    subst hn
    split at hs
    · obtain ⟨-, hs⟩ := zif hs; simp at hs
    · cases hs
  · replace hs := zif hs
    obtain ⟨hn, hs⟩ := hs
    subst hn
    split at hs
    · obtain ⟨-, hs⟩ := zif hs; simp at hs
    · cases hs
  · replace hs := zif hs
    obtain ⟨hn, hs⟩ := hs
    subst hn
    split at hs
    · obtain ⟨-, hs⟩ := zif hs; simp at hs
    · cases hs
  · replace hs := zif hs
    obtain ⟨hn, hs⟩ := hs
    subst hn
    unfold zcall at hs
    split at hs
    · obtain ⟨-, hs⟩ := zif hs
      split at hs
      · simp at hs
      · obtain ⟨-, hs⟩ := zif hs; simp at hs
      · cases hs
    · cases hs
  · replace hs := zif hs
    obtain ⟨hn, hs⟩ := hs
    subst hn
    unfold zcall at hs
    split at hs
    · obtain ⟨-, hs⟩ := zif hs
      simp at hs
    · cases hs
  · rename_i d0 lo0 hi0 os0
    unfold zswT at hs
    split at hs
    · rename_i x r
      have h1 := List.forall_mem_cons.mp hv.2.1
      have hx : zwr x = x := h1.1
      by_cases ho : x < lo0 ∨ hi0 < x
      · rw [if_pos ho] at hs
        exact zT_go hv h1.2 hs (fun ht hC kk => lv_tableOut hC.1 hC.2.1 hd (by rw [zI_toInt hx]; exact ho) ht kk)
      · rw [if_neg ho] at hs
        split at hs
        · rename_i off hoff
          exact zT_go hv h1.2 hs (fun ht hC kk => lv_tableIn hC.1 hC.2.1 hd (by rw [zI_toInt hx]; omega) (by rw [zI_toInt hx]; omega) (by rw [zI_toInt hx]; exact hoff) ht kk)
        · cases hs
    · cases hs
  · unfold zswL at hs
    split at hs
    · rename_i x r
      have h1 := List.forall_mem_cons.mp hv.2.1
      have hx : zwr x = x := h1.1
      obtain ⟨hp, hs⟩ := zif hs
      exact zT_go hv h1.2 hs (fun ht hC kk => lv_lookup hC.1 hC.2.1 hd hp (by rw [zI_toInt hx]) ht kk)
    · cases hs
  · cases hs
end SM
