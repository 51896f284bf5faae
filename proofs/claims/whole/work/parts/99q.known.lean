/-! the classes at the law's entry -/
theorem yKnown {args : Array Value} {s : State} (hts : ∀ w ∈ wsL_law, w.before args s = true) (hE : yE s) : ∃ (D : va_G) (c3 : yI3), va_K D vwCl (yT c3) s := by
  obtain ⟨c0, i0, k0⟩ := u_known (C := RX0) (T := TX0) (N := 5) (n := 5) hts inlX0 (hts (Cond.instantiable RX0 5) (List.mem_of_getElem? (i := 50) (by decide +kernel)))
  obtain ⟨c1, i1, k1⟩ := u_known (C := RX1) (T := TX1) (N := 8) (n := 8) hts inlX1 (hts (Cond.instantiable RX1 8) (List.mem_of_getElem? (i := 46) (by decide +kernel)))
  obtain ⟨c2, i2, k2⟩ := u_known (C := RX2) (T := TX2) (N := 6) (n := 6) hts inlX2 (hts (Cond.instantiable RX2 6) (List.mem_of_getElem? (i := 18) (by decide +kernel)))
  obtain ⟨c3, i3, k3⟩ := u_known (C := RX3) (T := TX3) (N := 7) (n := 7) hts inlX3 (hts (Cond.instantiable RX3 7) (List.mem_of_getElem? (i := 54) (by decide +kernel)))
  obtain ⟨c4, i4, k4⟩ := u_known (C := RX4) (T := TX4) (N := 9) (n := 9) hts inlX4 (hts (Cond.instantiable RX4 9) (List.mem_of_getElem? (i := 30) (by decide +kernel)))
  obtain ⟨c5, i5, k5⟩ := u_known (C := RX5) (T := TX5) (N := 6) (n := 6) hts inlX5 (hts (Cond.instantiable RX5 6) (List.mem_of_getElem? (i := 13) (by decide +kernel)))
  obtain ⟨c6, i6, k6⟩ := u_known (C := RX6) (T := TX6) (N := 7) (n := 7) hts inlX6 (hts (Cond.instantiable RX6 7) (List.mem_of_getElem? (i := 42) (by decide +kernel)))
  obtain ⟨c7, i7, k7⟩ := u_known (C := RX7) (T := TX7) (N := 5) (n := 5) hts inlX7 (hts (Cond.instantiable RX7 5) (List.mem_of_getElem? (i := 26) (by decide +kernel)))
  obtain ⟨c8, i8, k8⟩ := u_known (C := RX8) (T := TX8) (N := 5) (n := 5) hts inlX8 (hts (Cond.instantiable RX8 5) (List.mem_of_getElem? (i := 38) (by decide +kernel)))
  obtain ⟨c9, i9, k9⟩ := u_known (C := RX9) (T := TX9) (N := 6) (n := 6) hts inlX9 (hts (Cond.instantiable RX9 6) (List.mem_of_getElem? (i := 121) (by decide +kernel)))
  obtain ⟨c10, i10, k10⟩ := u_known (C := RX10) (T := TX10) (N := 11) (n := 11) hts inlX10 (hts (Cond.instantiable RX10 11) (List.mem_of_getElem? (i := 22) (by decide +kernel)))
  obtain ⟨c11, i11, k11⟩ := u_known (C := RX11) (T := TX11) (N := 9) (n := 9) hts inlX11 (hts (Cond.instantiable RX11 9) (List.mem_of_getElem? (i := 1) (by decide +kernel)))
  obtain ⟨c12, i12, k12⟩ := u_known (C := RX12) (T := TX12) (N := 31) (n := 31) hts inlX12 (hts (Cond.instantiable RX12 31) (List.mem_of_getElem? (i := 4) (by decide +kernel)))
  obtain ⟨a1, b1, d1, e1, e2, e3⟩ := Cond.arrayClass_spec (hts (Cond.arrayClass .int) (List.mem_of_getElem? (i := 60) (by decide +kernel)))
  obtain ⟨a2, b2, d2, f1, f2, f3⟩ := Cond.arrayClass_spec (hts (Cond.arrayClass .byte) (List.mem_of_getElem? (i := 131) (by decide +kernel)))
  obtain ⟨comp, a3, b3, g1, g2, g3, g4, g5⟩ := Cond.arrayOver_spec (va_AO.use (A := args) hE.2)
  refine ⟨(fun k => [c0, c1, c2, c3, c4, c5, c6, c7, c8, c9, c10, c11, c12].getD k c0, fun k => [i0, i1, i2, i3, i4, i5, i6, i7, i8, i9, i10, i11, i12].getD k i0), (a1, a2, a3), ?_, ?_⟩
  · intro k q hq
    match k, hq with
    | 0, hq => cases hq; exact k0
    | 1, hq => cases hq; exact k1
    | 2, hq => cases hq; exact k2
    | 3, hq => cases hq; exact k3
    | 4, hq => cases hq; exact k4
    | 5, hq => cases hq; exact k5
    | 6, hq => cases hq; exact k6
    | 7, hq => cases hq; exact k7
    | 8, hq => cases hq; exact k8
    | 9, hq => cases hq; exact k9
    | 10, hq => cases hq; exact k10
    | 11, hq => cases hq; exact k11
    | 12, hq => cases hq; exact k12
    | k + 13, hq => simp [vwCl] at hq
  · intro k q hq
    match k, hq with
    | 0, hq => cases hq; exact ⟨fun n z => ⟨fun k h => (by cases h), b1, e2, d1, e3⟩, e1⟩
    | 1, hq => cases hq; exact ⟨fun n z => ⟨fun k h => (by cases h), b2, f2, d2, f3⟩, f1⟩
    | 2, hq => cases hq; exact ⟨fun n z => ⟨fun k h => (by cases h), b3, g3, comp, g4⟩, b3, comp, g3, g4, g1, g5⟩
    | k + 3, hq => simp [yT] at hq
